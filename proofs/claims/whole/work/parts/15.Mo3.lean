theorem d_Mo_take_0 : decode b_Mo_take 0 = .ok (.aload_n 0, 1) := by decide +kernel
theorem d_Mo_take_1 : decode b_Mo_take 1 = .ok (.iload_n 1, 1) := by decide +kernel
theorem d_Mo_take_2 : decode b_Mo_take 2 = .ok (.iconst 0, 1) := by decide +kernel
theorem d_Mo_take_3 : decode b_Mo_take 3 = .ok (.iconst 5, 1) := by decide +kernel
theorem d_Mo_take_4 : decode b_Mo_take 4 = .ok (.invokevirtual 80, 3) := by decide +kernel
theorem d_Mo_take_7 : decode b_Mo_take 7 = .ok (.ifCond .ne 22, 3) := by decide +kernel
theorem d_Mo_take_10 : decode b_Mo_take 10 = .ok (.aload_n 0, 1) := by decide +kernel
theorem d_Mo_take_11 : decode b_Mo_take 11 = .ok (.iload_n 2, 1) := by decide +kernel
theorem d_Mo_take_12 : decode b_Mo_take 12 = .ok (.iconst 1, 1) := by decide +kernel
theorem d_Mo_take_13 : decode b_Mo_take 13 = .ok (.bipush 100, 2) := by decide +kernel
theorem d_Mo_take_15 : decode b_Mo_take 15 = .ok (.invokevirtual 80, 3) := by decide +kernel
theorem d_Mo_take_18 : decode b_Mo_take 18 = .ok (.ifCond .ne 11, 3) := by decide +kernel
theorem d_Mo_take_21 : decode b_Mo_take 21 = .ok (.aload_n 0, 1) := by decide +kernel
theorem d_Mo_take_22 : decode b_Mo_take 22 = .ok (.iload_n 1, 1) := by decide +kernel
theorem d_Mo_take_23 : decode b_Mo_take 23 = .ok (.invokevirtual 110, 3) := by decide +kernel
theorem d_Mo_take_26 : decode b_Mo_take 26 = .ok (.ifCond .lt 5, 3) := by decide +kernel
theorem d_Mo_take_29 : decode b_Mo_take 29 = .ok (.iconst (-1), 1) := by decide +kernel
theorem d_Mo_take_30 : decode b_Mo_take 30 = .ok (.ireturn, 1) := by decide +kernel
theorem d_Mo_take_31 : decode b_Mo_take 31 = .ok (.aload_n 0, 1) := by decide +kernel
theorem d_Mo_take_32 : decode b_Mo_take 32 = .ok (.invokevirtual 114, 3) := by decide +kernel
theorem d_Mo_take_35 : decode b_Mo_take 35 = .ok (.istore_n 3, 1) := by decide +kernel
theorem d_Mo_take_36 : decode b_Mo_take 36 = .ok (.iload_n 3, 1) := by decide +kernel
theorem d_Mo_take_37 : decode b_Mo_take 37 = .ok (.ifCond .ge 6, 3) := by decide +kernel
theorem d_Mo_take_40 : decode b_Mo_take 40 = .ok (.bipush (-4), 2) := by decide +kernel
theorem d_Mo_take_42 : decode b_Mo_take 42 = .ok (.ireturn, 1) := by decide +kernel
theorem d_Mo_take_43 : decode b_Mo_take 43 = .ok (.aload_n 0, 1) := by decide +kernel
theorem d_Mo_take_44 : decode b_Mo_take 44 = .ok (.getfield 20, 3) := by decide +kernel
theorem d_Mo_take_47 : decode b_Mo_take 47 = .ok (.iload_n 3, 1) := by decide +kernel
theorem d_Mo_take_48 : decode b_Mo_take 48 = .ok (.iaload, 1) := by decide +kernel
theorem d_Mo_take_49 : decode b_Mo_take 49 = .ok (.ifCond .le 13, 3) := by decide +kernel
theorem d_Mo_take_52 : decode b_Mo_take 52 = .ok (.aload_n 0, 1) := by decide +kernel
theorem d_Mo_take_53 : decode b_Mo_take 53 = .ok (.getfield 23, 3) := by decide +kernel
theorem d_Mo_take_56 : decode b_Mo_take 56 = .ok (.iload_n 3, 1) := by decide +kernel
theorem d_Mo_take_57 : decode b_Mo_take 57 = .ok (.dup2, 1) := by decide +kernel
theorem d_Mo_take_58 : decode b_Mo_take 58 = .ok (.iaload, 1) := by decide +kernel
theorem d_Mo_take_59 : decode b_Mo_take 59 = .ok (.iconst 1, 1) := by decide +kernel
theorem d_Mo_take_60 : decode b_Mo_take 60 = .ok (.isub, 1) := by decide +kernel
theorem d_Mo_take_61 : decode b_Mo_take 61 = .ok (.iastore, 1) := by decide +kernel
theorem d_Mo_take_62 : decode b_Mo_take 62 = .ok (.aload_n 0, 1) := by decide +kernel
theorem d_Mo_take_63 : decode b_Mo_take 63 = .ok (.iload_n 3, 1) := by decide +kernel
theorem d_Mo_take_64 : decode b_Mo_take 64 = .ok (.iconst 0, 1) := by decide +kernel
theorem d_Mo_take_65 : decode b_Mo_take 65 = .ok (.invokevirtual 104, 3) := by decide +kernel
theorem d_Mo_take_68 : decode b_Mo_take 68 = .ok (.istore 4, 2) := by decide +kernel
theorem d_Mo_take_70 : decode b_Mo_take 70 = .ok (.aload_n 0, 1) := by decide +kernel
theorem d_Mo_take_71 : decode b_Mo_take 71 = .ok (.iload 4, 2) := by decide +kernel
theorem d_Mo_take_73 : decode b_Mo_take 73 = .ok (.bipush 9, 2) := by decide +kernel
theorem d_Mo_take_75 : decode b_Mo_take 75 = .ok (.iconst 2, 1) := by decide +kernel
theorem d_Mo_take_76 : decode b_Mo_take 76 = .ok (.invokevirtual 69, 3) := by decide +kernel
theorem d_Mo_take_79 : decode b_Mo_take 79 = .ok (.aload_n 0, 1) := by decide +kernel
theorem d_Mo_take_80 : decode b_Mo_take 80 = .ok (.iload 4, 2) := by decide +kernel
theorem d_Mo_take_82 : decode b_Mo_take 82 = .ok (.bipush 10, 2) := by decide +kernel
theorem d_Mo_take_84 : decode b_Mo_take 84 = .ok (.aload_n 0, 1) := by decide +kernel
theorem d_Mo_take_85 : decode b_Mo_take 85 = .ok (.getfield 7, 3) := by decide +kernel
theorem d_Mo_take_88 : decode b_Mo_take 88 = .ok (.iload_n 2, 1) := by decide +kernel
theorem d_Mo_take_89 : decode b_Mo_take 89 = .ok (.iadd, 1) := by decide +kernel
theorem d_Mo_take_90 : decode b_Mo_take 90 = .ok (.invokevirtual 69, 3) := by decide +kernel
theorem d_Mo_take_93 : decode b_Mo_take 93 = .ok (.aload_n 0, 1) := by decide +kernel
theorem d_Mo_take_94 : decode b_Mo_take 94 = .ok (.iload 4, 2) := by decide +kernel
theorem d_Mo_take_96 : decode b_Mo_take 96 = .ok (.bipush 11, 2) := by decide +kernel
theorem d_Mo_take_98 : decode b_Mo_take 98 = .ok (.iload_n 1, 1) := by decide +kernel
theorem d_Mo_take_99 : decode b_Mo_take 99 = .ok (.invokevirtual 69, 3) := by decide +kernel
theorem d_Mo_take_102 : decode b_Mo_take 102 = .ok (.aload_n 0, 1) := by decide +kernel
theorem d_Mo_take_103 : decode b_Mo_take 103 = .ok (.invokevirtual 94, 3) := by decide +kernel
theorem d_Mo_take_106 : decode b_Mo_take 106 = .ok (.iload 4, 2) := by decide +kernel
theorem d_Mo_take_108 : decode b_Mo_take 108 = .ok (.ireturn, 1) := by decide +kernel
theorem d_Mo_ack_0 : decode b_Mo_ack 0 = .ok (.aload_n 0, 1) := by decide +kernel
theorem d_Mo_ack_1 : decode b_Mo_ack 1 = .ok (.iload_n 1, 1) := by decide +kernel
theorem d_Mo_ack_2 : decode b_Mo_ack 2 = .ok (.iconst 0, 1) := by decide +kernel
theorem d_Mo_ack_3 : decode b_Mo_ack 3 = .ok (.iconst 5, 1) := by decide +kernel
theorem d_Mo_ack_4 : decode b_Mo_ack 4 = .ok (.invokevirtual 80, 3) := by decide +kernel
theorem d_Mo_ack_7 : decode b_Mo_ack 7 = .ok (.ifCond .ne 11, 3) := by decide +kernel
theorem d_Mo_ack_10 : decode b_Mo_ack 10 = .ok (.aload_n 0, 1) := by decide +kernel
theorem d_Mo_ack_11 : decode b_Mo_ack 11 = .ok (.iload_n 1, 1) := by decide +kernel
theorem d_Mo_ack_12 : decode b_Mo_ack 12 = .ok (.invokevirtual 110, 3) := by decide +kernel
theorem d_Mo_ack_15 : decode b_Mo_ack 15 = .ok (.ifCond .ge 5, 3) := by decide +kernel
theorem d_Mo_ack_18 : decode b_Mo_ack 18 = .ok (.iconst (-1), 1) := by decide +kernel
theorem d_Mo_ack_19 : decode b_Mo_ack 19 = .ok (.ireturn, 1) := by decide +kernel
theorem d_Mo_ack_20 : decode b_Mo_ack 20 = .ok (.aload_n 0, 1) := by decide +kernel
theorem d_Mo_ack_21 : decode b_Mo_ack 21 = .ok (.iload_n 1, 1) := by decide +kernel
theorem d_Mo_ack_22 : decode b_Mo_ack 22 = .ok (.invokevirtual 110, 3) := by decide +kernel
theorem d_Mo_ack_25 : decode b_Mo_ack 25 = .ok (.istore_n 2, 1) := by decide +kernel
theorem d_Mo_ack_26 : decode b_Mo_ack 26 = .ok (.aload_n 0, 1) := by decide +kernel
theorem d_Mo_ack_27 : decode b_Mo_ack 27 = .ok (.iload_n 2, 1) := by decide +kernel
theorem d_Mo_ack_28 : decode b_Mo_ack 28 = .ok (.bipush 6, 2) := by decide +kernel
theorem d_Mo_ack_30 : decode b_Mo_ack 30 = .ok (.invokevirtual 65, 3) := by decide +kernel
theorem d_Mo_ack_33 : decode b_Mo_ack 33 = .ok (.istore_n 3, 1) := by decide +kernel
theorem d_Mo_ack_34 : decode b_Mo_ack 34 = .ok (.aload_n 0, 1) := by decide +kernel
theorem d_Mo_ack_35 : decode b_Mo_ack 35 = .ok (.iload_n 2, 1) := by decide +kernel
theorem d_Mo_ack_36 : decode b_Mo_ack 36 = .ok (.bipush 9, 2) := by decide +kernel
theorem d_Mo_ack_38 : decode b_Mo_ack 38 = .ok (.iconst 4, 1) := by decide +kernel
theorem d_Mo_ack_39 : decode b_Mo_ack 39 = .ok (.invokevirtual 69, 3) := by decide +kernel
theorem d_Mo_ack_42 : decode b_Mo_ack 42 = .ok (.aload_n 0, 1) := by decide +kernel
theorem d_Mo_ack_43 : decode b_Mo_ack 43 = .ok (.iload_n 2, 1) := by decide +kernel
theorem d_Mo_ack_44 : decode b_Mo_ack 44 = .ok (.bipush 11, 2) := by decide +kernel
theorem d_Mo_ack_46 : decode b_Mo_ack 46 = .ok (.iconst (-1), 1) := by decide +kernel
theorem d_Mo_ack_47 : decode b_Mo_ack 47 = .ok (.invokevirtual 69, 3) := by decide +kernel
theorem d_Mo_ack_50 : decode b_Mo_ack 50 = .ok (.iload_n 3, 1) := by decide +kernel
theorem d_Mo_ack_51 : decode b_Mo_ack 51 = .ok (.ifCond .lt 57, 3) := by decide +kernel
theorem d_Mo_ack_54 : decode b_Mo_ack 54 = .ok (.aload_n 0, 1) := by decide +kernel
theorem d_Mo_ack_55 : decode b_Mo_ack 55 = .ok (.iload_n 3, 1) := by decide +kernel
theorem d_Mo_ack_56 : decode b_Mo_ack 56 = .ok (.bipush 7, 2) := by decide +kernel
theorem d_Mo_ack_58 : decode b_Mo_ack 58 = .ok (.aload_n 0, 1) := by decide +kernel
theorem d_Mo_ack_59 : decode b_Mo_ack 59 = .ok (.iload_n 3, 1) := by decide +kernel
theorem d_Mo_ack_60 : decode b_Mo_ack 60 = .ok (.bipush 7, 2) := by decide +kernel
theorem d_Mo_ack_62 : decode b_Mo_ack 62 = .ok (.invokevirtual 65, 3) := by decide +kernel
theorem d_Mo_ack_65 : decode b_Mo_ack 65 = .ok (.iconst 1, 1) := by decide +kernel
theorem d_Mo_ack_66 : decode b_Mo_ack 66 = .ok (.isub, 1) := by decide +kernel
theorem d_Mo_ack_67 : decode b_Mo_ack 67 = .ok (.invokevirtual 69, 3) := by decide +kernel
theorem d_Mo_ack_70 : decode b_Mo_ack 70 = .ok (.aload_n 0, 1) := by decide +kernel
theorem d_Mo_ack_71 : decode b_Mo_ack 71 = .ok (.iload_n 3, 1) := by decide +kernel
theorem d_Mo_ack_72 : decode b_Mo_ack 72 = .ok (.bipush 9, 2) := by decide +kernel
theorem d_Mo_ack_74 : decode b_Mo_ack 74 = .ok (.invokevirtual 65, 3) := by decide +kernel
theorem d_Mo_ack_77 : decode b_Mo_ack 77 = .ok (.bipush 6, 2) := by decide +kernel
theorem d_Mo_ack_79 : decode b_Mo_ack 79 = .ok (.if_icmp .ne 29, 3) := by decide +kernel
theorem d_Mo_ack_82 : decode b_Mo_ack 82 = .ok (.aload_n 0, 1) := by decide +kernel
theorem d_Mo_ack_83 : decode b_Mo_ack 83 = .ok (.iload_n 3, 1) := by decide +kernel
theorem d_Mo_ack_84 : decode b_Mo_ack 84 = .ok (.bipush 8, 2) := by decide +kernel
theorem d_Mo_ack_86 : decode b_Mo_ack 86 = .ok (.invokevirtual 65, 3) := by decide +kernel
theorem d_Mo_ack_89 : decode b_Mo_ack 89 = .ok (.iconst 1, 1) := by decide +kernel
theorem d_Mo_ack_90 : decode b_Mo_ack 90 = .ok (.if_icmp .ne 18, 3) := by decide +kernel
theorem d_Mo_ack_93 : decode b_Mo_ack 93 = .ok (.aload_n 0, 1) := by decide +kernel
theorem d_Mo_ack_94 : decode b_Mo_ack 94 = .ok (.iload_n 3, 1) := by decide +kernel
theorem d_Mo_ack_95 : decode b_Mo_ack 95 = .ok (.bipush 7, 2) := by decide +kernel
theorem d_Mo_ack_97 : decode b_Mo_ack 97 = .ok (.invokevirtual 65, 3) := by decide +kernel
theorem d_Mo_ack_100 : decode b_Mo_ack 100 = .ok (.ifCond .ne 8, 3) := by decide +kernel
theorem d_Mo_ack_103 : decode b_Mo_ack 103 = .ok (.aload_n 0, 1) := by decide +kernel
theorem d_Mo_ack_104 : decode b_Mo_ack 104 = .ok (.iload_n 3, 1) := by decide +kernel
theorem d_Mo_ack_105 : decode b_Mo_ack 105 = .ok (.invokevirtual 91, 3) := by decide +kernel
theorem d_Mo_ack_108 : decode b_Mo_ack 108 = .ok (.aload_n 0, 1) := by decide +kernel
theorem d_Mo_ack_109 : decode b_Mo_ack 109 = .ok (.invokevirtual 94, 3) := by decide +kernel
theorem d_Mo_ack_112 : decode b_Mo_ack 112 = .ok (.iload_n 2, 1) := by decide +kernel
theorem d_Mo_ack_113 : decode b_Mo_ack 113 = .ok (.ireturn, 1) := by decide +kernel
theorem d_Mo_fail_0 : decode b_Mo_fail 0 = .ok (.aload_n 0, 1) := by decide +kernel
theorem d_Mo_fail_1 : decode b_Mo_fail 1 = .ok (.iload_n 1, 1) := by decide +kernel
theorem d_Mo_fail_2 : decode b_Mo_fail 2 = .ok (.iconst 0, 1) := by decide +kernel
theorem d_Mo_fail_3 : decode b_Mo_fail 3 = .ok (.iconst 5, 1) := by decide +kernel
theorem d_Mo_fail_4 : decode b_Mo_fail 4 = .ok (.invokevirtual 80, 3) := by decide +kernel
theorem d_Mo_fail_7 : decode b_Mo_fail 7 = .ok (.ifCond .ne 11, 3) := by decide +kernel
theorem d_Mo_fail_10 : decode b_Mo_fail 10 = .ok (.aload_n 0, 1) := by decide +kernel
theorem d_Mo_fail_11 : decode b_Mo_fail 11 = .ok (.iload_n 1, 1) := by decide +kernel
theorem d_Mo_fail_12 : decode b_Mo_fail 12 = .ok (.invokevirtual 110, 3) := by decide +kernel
theorem d_Mo_fail_15 : decode b_Mo_fail 15 = .ok (.ifCond .ge 5, 3) := by decide +kernel
theorem d_Mo_fail_18 : decode b_Mo_fail 18 = .ok (.iconst (-1), 1) := by decide +kernel
theorem d_Mo_fail_19 : decode b_Mo_fail 19 = .ok (.ireturn, 1) := by decide +kernel
theorem d_Mo_fail_20 : decode b_Mo_fail 20 = .ok (.aload_n 0, 1) := by decide +kernel
theorem d_Mo_fail_21 : decode b_Mo_fail 21 = .ok (.iload_n 1, 1) := by decide +kernel
theorem d_Mo_fail_22 : decode b_Mo_fail 22 = .ok (.invokevirtual 110, 3) := by decide +kernel
theorem d_Mo_fail_25 : decode b_Mo_fail 25 = .ok (.istore_n 2, 1) := by decide +kernel
theorem d_Mo_fail_26 : decode b_Mo_fail 26 = .ok (.aload_n 0, 1) := by decide +kernel
theorem d_Mo_fail_27 : decode b_Mo_fail 27 = .ok (.iload_n 2, 1) := by decide +kernel
theorem d_Mo_fail_28 : decode b_Mo_fail 28 = .ok (.invokevirtual 118, 3) := by decide +kernel
theorem d_Mo_fail_31 : decode b_Mo_fail 31 = .ok (.aload_n 0, 1) := by decide +kernel
theorem d_Mo_fail_32 : decode b_Mo_fail 32 = .ok (.invokevirtual 94, 3) := by decide +kernel
theorem d_Mo_fail_35 : decode b_Mo_fail 35 = .ok (.iload_n 2, 1) := by decide +kernel
theorem d_Mo_fail_36 : decode b_Mo_fail 36 = .ok (.ireturn, 1) := by decide +kernel
theorem d_Mo_wake_0 : decode b_Mo_wake 0 = .ok (.iconst 0, 1) := by decide +kernel
theorem d_Mo_wake_1 : decode b_Mo_wake 1 = .ok (.istore_n 2, 1) := by decide +kernel
theorem d_Mo_wake_2 : decode b_Mo_wake 2 = .ok (.iconst 0, 1) := by decide +kernel
theorem d_Mo_wake_3 : decode b_Mo_wake 3 = .ok (.istore_n 3, 1) := by decide +kernel
theorem d_Mo_wake_4 : decode b_Mo_wake 4 = .ok (.iload_n 3, 1) := by decide +kernel
theorem d_Mo_wake_5 : decode b_Mo_wake 5 = .ok (.bipush 40, 2) := by decide +kernel
theorem d_Mo_wake_7 : decode b_Mo_wake 7 = .ok (.if_icmp .ge 16, 3) := by decide +kernel
theorem d_Mo_wake_10 : decode b_Mo_wake 10 = .ok (.aload_n 0, 1) := by decide +kernel
theorem d_Mo_wake_11 : decode b_Mo_wake 11 = .ok (.getfield 53, 3) := by decide +kernel
theorem d_Mo_wake_14 : decode b_Mo_wake 14 = .ok (.iload_n 3, 1) := by decide +kernel
theorem d_Mo_wake_15 : decode b_Mo_wake 15 = .ok (.iconst 0, 1) := by decide +kernel
theorem d_Mo_wake_16 : decode b_Mo_wake 16 = .ok (.bastore, 1) := by decide +kernel
theorem d_Mo_wake_17 : decode b_Mo_wake 17 = .ok (.iinc 3 1, 3) := by decide +kernel
theorem d_Mo_wake_20 : decode b_Mo_wake 20 = .ok (.goto (-16), 3) := by decide +kernel
theorem d_Mo_wake_23 : decode b_Mo_wake 23 = .ok (.iconst 0, 1) := by decide +kernel
theorem d_Mo_wake_24 : decode b_Mo_wake 24 = .ok (.istore_n 3, 1) := by decide +kernel
theorem d_Mo_wake_25 : decode b_Mo_wake 25 = .ok (.iload_n 3, 1) := by decide +kernel
theorem d_Mo_wake_26 : decode b_Mo_wake 26 = .ok (.bipush 40, 2) := by decide +kernel
theorem d_Mo_wake_28 : decode b_Mo_wake 28 = .ok (.if_icmp .ge 171, 3) := by decide +kernel
theorem d_Mo_wake_31 : decode b_Mo_wake 31 = .ok (.iconst (-1), 1) := by decide +kernel
theorem d_Mo_wake_32 : decode b_Mo_wake 32 = .ok (.istore 4, 2) := by decide +kernel
theorem d_Mo_wake_34 : decode b_Mo_wake 34 = .ok (.iconst 0, 1) := by decide +kernel
theorem d_Mo_wake_35 : decode b_Mo_wake 35 = .ok (.istore 5, 2) := by decide +kernel
theorem d_Mo_wake_37 : decode b_Mo_wake 37 = .ok (.iload 5, 2) := by decide +kernel
theorem d_Mo_wake_39 : decode b_Mo_wake 39 = .ok (.aload_n 0, 1) := by decide +kernel
theorem d_Mo_wake_40 : decode b_Mo_wake 40 = .ok (.getfield 35, 3) := by decide +kernel
theorem d_Mo_wake_43 : decode b_Mo_wake 43 = .ok (.if_icmp .ge 105, 3) := by decide +kernel
theorem d_Mo_wake_46 : decode b_Mo_wake 46 = .ok (.aload_n 0, 1) := by decide +kernel
theorem d_Mo_wake_47 : decode b_Mo_wake 47 = .ok (.iload 5, 2) := by decide +kernel
theorem d_Mo_wake_49 : decode b_Mo_wake 49 = .ok (.bipush 9, 2) := by decide +kernel
theorem d_Mo_wake_51 : decode b_Mo_wake 51 = .ok (.invokevirtual 65, 3) := by decide +kernel
theorem d_Mo_wake_54 : decode b_Mo_wake 54 = .ok (.istore 6, 2) := by decide +kernel
theorem d_Mo_wake_56 : decode b_Mo_wake 56 = .ok (.iload 6, 2) := by decide +kernel
theorem d_Mo_wake_58 : decode b_Mo_wake 58 = .ok (.ifCond .eq 19, 3) := by decide +kernel
theorem d_Mo_wake_61 : decode b_Mo_wake 61 = .ok (.iload 6, 2) := by decide +kernel
theorem d_Mo_wake_63 : decode b_Mo_wake 63 = .ok (.iconst 3, 1) := by decide +kernel
theorem d_Mo_wake_64 : decode b_Mo_wake 64 = .ok (.if_icmp .eq 13, 3) := by decide +kernel
theorem d_Mo_wake_67 : decode b_Mo_wake 67 = .ok (.iload 6, 2) := by decide +kernel
theorem d_Mo_wake_69 : decode b_Mo_wake 69 = .ok (.iconst 2, 1) := by decide +kernel
theorem d_Mo_wake_70 : decode b_Mo_wake 70 = .ok (.if_icmp .ne 36, 3) := by decide +kernel
theorem d_Mo_wake_73 : decode b_Mo_wake 73 = .ok (.iload_n 1, 1) := by decide +kernel
theorem d_Mo_wake_74 : decode b_Mo_wake 74 = .ok (.ifCond .ne 32, 3) := by decide +kernel
theorem d_Mo_wake_77 : decode b_Mo_wake 77 = .ok (.aload_n 0, 1) := by decide +kernel
theorem d_Mo_wake_78 : decode b_Mo_wake 78 = .ok (.iload 5, 2) := by decide +kernel
theorem d_Mo_wake_80 : decode b_Mo_wake 80 = .ok (.bipush 10, 2) := by decide +kernel
theorem d_Mo_wake_82 : decode b_Mo_wake 82 = .ok (.invokevirtual 65, 3) := by decide +kernel
theorem d_Mo_wake_85 : decode b_Mo_wake 85 = .ok (.aload_n 0, 1) := by decide +kernel
theorem d_Mo_wake_86 : decode b_Mo_wake 86 = .ok (.getfield 7, 3) := by decide +kernel
theorem d_Mo_wake_89 : decode b_Mo_wake 89 = .ok (.if_icmp .gt 17, 3) := by decide +kernel
theorem d_Mo_wake_92 : decode b_Mo_wake 92 = .ok (.aload_n 0, 1) := by decide +kernel
theorem d_Mo_wake_93 : decode b_Mo_wake 93 = .ok (.getfield 53, 3) := by decide +kernel
theorem d_Mo_wake_96 : decode b_Mo_wake 96 = .ok (.iload 5, 2) := by decide +kernel
theorem d_Mo_wake_98 : decode b_Mo_wake 98 = .ok (.baload, 1) := by decide +kernel
theorem d_Mo_wake_99 : decode b_Mo_wake 99 = .ok (.ifCond .ne 7, 3) := by decide +kernel
theorem d_Mo_wake_102 : decode b_Mo_wake 102 = .ok (.iconst 1, 1) := by decide +kernel
theorem d_Mo_wake_103 : decode b_Mo_wake 103 = .ok (.goto 4, 3) := by decide +kernel
theorem d_Mo_wake_106 : decode b_Mo_wake 106 = .ok (.iconst 0, 1) := by decide +kernel
theorem d_Mo_wake_107 : decode b_Mo_wake 107 = .ok (.istore 7, 2) := by decide +kernel
theorem d_Mo_wake_109 : decode b_Mo_wake 109 = .ok (.iload 7, 2) := by decide +kernel
theorem d_Mo_wake_111 : decode b_Mo_wake 111 = .ok (.ifCond .eq 31, 3) := by decide +kernel
theorem d_Mo_wake_114 : decode b_Mo_wake 114 = .ok (.iload 4, 2) := by decide +kernel
theorem d_Mo_wake_116 : decode b_Mo_wake 116 = .ok (.ifCond .lt 22, 3) := by decide +kernel
theorem d_Mo_wake_119 : decode b_Mo_wake 119 = .ok (.aload_n 0, 1) := by decide +kernel
theorem d_Mo_wake_120 : decode b_Mo_wake 120 = .ok (.iload 5, 2) := by decide +kernel
theorem d_Mo_wake_122 : decode b_Mo_wake 122 = .ok (.bipush 10, 2) := by decide +kernel
theorem d_Mo_wake_124 : decode b_Mo_wake 124 = .ok (.invokevirtual 65, 3) := by decide +kernel
theorem d_Mo_wake_127 : decode b_Mo_wake 127 = .ok (.aload_n 0, 1) := by decide +kernel
theorem d_Mo_wake_128 : decode b_Mo_wake 128 = .ok (.iload 4, 2) := by decide +kernel
theorem d_Mo_wake_130 : decode b_Mo_wake 130 = .ok (.bipush 10, 2) := by decide +kernel
theorem d_Mo_wake_132 : decode b_Mo_wake 132 = .ok (.invokevirtual 65, 3) := by decide +kernel
theorem d_Mo_wake_135 : decode b_Mo_wake 135 = .ok (.if_icmp .ge 7, 3) := by decide +kernel
theorem d_Mo_wake_138 : decode b_Mo_wake 138 = .ok (.iload 5, 2) := by decide +kernel
theorem d_Mo_wake_140 : decode b_Mo_wake 140 = .ok (.istore 4, 2) := by decide +kernel
theorem d_Mo_wake_142 : decode b_Mo_wake 142 = .ok (.iinc 5 1, 3) := by decide +kernel
theorem d_Mo_wake_145 : decode b_Mo_wake 145 = .ok (.goto (-108), 3) := by decide +kernel
theorem d_Mo_wake_148 : decode b_Mo_wake 148 = .ok (.iload 4, 2) := by decide +kernel
theorem d_Mo_wake_150 : decode b_Mo_wake 150 = .ok (.ifCond .ge 5, 3) := by decide +kernel
theorem d_Mo_wake_153 : decode b_Mo_wake 153 = .ok (.iload_n 2, 1) := by decide +kernel
theorem d_Mo_wake_154 : decode b_Mo_wake 154 = .ok (.ireturn, 1) := by decide +kernel
theorem d_Mo_wake_155 : decode b_Mo_wake 155 = .ok (.aload_n 0, 1) := by decide +kernel
theorem d_Mo_wake_156 : decode b_Mo_wake 156 = .ok (.getfield 53, 3) := by decide +kernel
theorem d_Mo_wake_159 : decode b_Mo_wake 159 = .ok (.iload 4, 2) := by decide +kernel
theorem d_Mo_wake_161 : decode b_Mo_wake 161 = .ok (.iconst 1, 1) := by decide +kernel
theorem d_Mo_wake_162 : decode b_Mo_wake 162 = .ok (.bastore, 1) := by decide +kernel
theorem d_Mo_wake_163 : decode b_Mo_wake 163 = .ok (.iinc 2 1, 3) := by decide +kernel
theorem d_Mo_wake_166 : decode b_Mo_wake 166 = .ok (.aload_n 0, 1) := by decide +kernel
theorem d_Mo_wake_167 : decode b_Mo_wake 167 = .ok (.iload 4, 2) := by decide +kernel
theorem d_Mo_wake_169 : decode b_Mo_wake 169 = .ok (.bipush 9, 2) := by decide +kernel
theorem d_Mo_wake_171 : decode b_Mo_wake 171 = .ok (.invokevirtual 65, 3) := by decide +kernel
theorem d_Mo_wake_174 : decode b_Mo_wake 174 = .ok (.iconst 2, 1) := by decide +kernel
theorem d_Mo_wake_175 : decode b_Mo_wake 175 = .ok (.if_icmp .ne 12, 3) := by decide +kernel
theorem d_Mo_wake_178 : decode b_Mo_wake 178 = .ok (.aload_n 0, 1) := by decide +kernel
theorem d_Mo_wake_179 : decode b_Mo_wake 179 = .ok (.iload 4, 2) := by decide +kernel
theorem d_Mo_wake_181 : decode b_Mo_wake 181 = .ok (.invokevirtual 118, 3) := by decide +kernel
theorem d_Mo_wake_184 : decode b_Mo_wake 184 = .ok (.goto 9, 3) := by decide +kernel
theorem d_Mo_wake_187 : decode b_Mo_wake 187 = .ok (.aload_n 0, 1) := by decide +kernel
theorem d_Mo_wake_188 : decode b_Mo_wake 188 = .ok (.iload 4, 2) := by decide +kernel
theorem d_Mo_wake_190 : decode b_Mo_wake 190 = .ok (.invokevirtual 91, 3) := by decide +kernel
theorem d_Mo_wake_193 : decode b_Mo_wake 193 = .ok (.iinc 3 1, 3) := by decide +kernel
theorem d_Mo_wake_196 : decode b_Mo_wake 196 = .ok (.goto (-171), 3) := by decide +kernel
theorem d_Mo_wake_199 : decode b_Mo_wake 199 = .ok (.iload_n 2, 1) := by decide +kernel
theorem d_Mo_wake_200 : decode b_Mo_wake 200 = .ok (.ireturn, 1) := by decide +kernel
def fn_Mo_take (N : Nat) (p0 : Int32) (p1 : Int32) (σ : gx_M) : Option (Int32 × gx_M) := gx_bd (fn_Mo_out N p0 ((0 : Int32)) ((5 : Int32)) σ) (fun r_3 σ_1 => if r_3 = 0 then (gx_bd (fn_Mo_out N p1 ((1 : Int32)) ((100 : Int32)) σ_1) (fun r_7 σ_5 => if r_7 = 0 then (gx_bd (fn_Mo_holding N p0 σ_5) (fun r_11 σ_9 => if r_11 < 0 then (gx_bd (fn_Mo_choose N σ_9) (fun r_15 σ_13 => if 0 ≤ r_15 then (if 0 ≤ r_15 ∧ r_15 < 4 then (if (σ_13 725 r_15.toNatClampNeg) ≤ 0 then (gx_bd (fn_Mo_inLine N r_15 ((0 : Int32)) σ_13) (fun r_21 σ_19 => gx_bv (fn_Mo_set N r_21 ((9 : Int32)) ((2 : Int32)) σ_19) (fun σ_22 => gx_bv (fn_Mo_set N r_21 ((10 : Int32)) ((σ_22 722 1) + p1) σ_22) (fun σ_24 => gx_bv (fn_Mo_set N r_21 ((11 : Int32)) p0 σ_24) (fun σ_26 => gx_bv (fn_Mo_note N σ_26) (fun σ_28 => some (r_21, σ_28))))))) else (if 0 ≤ r_15 ∧ r_15 < 4 then (if 0 ≤ r_15 ∧ r_15 < 4 then (gx_lt (gx_up σ_13 726 r_15.toNatClampNeg ((σ_13 726 r_15.toNatClampNeg) - ((1 : Int32)))) (fun σ_32 => gx_bd (fn_Mo_inLine N r_15 ((0 : Int32)) σ_32) (fun r_35 σ_33 => gx_bv (fn_Mo_set N r_35 ((9 : Int32)) ((2 : Int32)) σ_33) (fun σ_36 => gx_bv (fn_Mo_set N r_35 ((10 : Int32)) ((σ_36 722 1) + p1) σ_36) (fun σ_38 => gx_bv (fn_Mo_set N r_35 ((11 : Int32)) p0 σ_38) (fun σ_40 => gx_bv (fn_Mo_note N σ_40) (fun σ_42 => some (r_35, σ_42)))))))) else none) else none)) else none) else (some ((-4 : Int32), σ_13)))) else (some ((-1 : Int32), σ_9)))) else (some ((-1 : Int32), σ_5)))) else (some ((-1 : Int32), σ_1)))
set_option maxHeartbeats 4000000 in
set_option maxRecDepth 100000 in
theorem ct_Mo_take (l : Launch) (D : va_G) (dA : Nat → ClassId) (adr : Nat → Nat) (A : Nat → Prop) (hA : gx_A A adr) (N : Nat) (p0 : Int32) (p1 : Int32) (σ : gx_M) (r : Int32) (σ' : gx_M) (hf : fn_Mo_take N p0 p1 σ = some (r, σ')) : Met l y_Mo_take w_Mo_take rm_Mo_take (gx_Pc D dA adr σ [.ref (adr 722), .int p0, .int p1]) (gx_Q D dA adr A (some (.int r)) σ') 0 0 A := by
  refine Met.ofW (cc := b_Mo_take) (maxL := 5) (ret := some .int) (by decide) rfl ?_
  intro p e s m args below meth c s₁ B hml hv
  obtain ⟨rfl, hP, hK⟩ := hv
  have hx := B.exec
  have hb := B.bytes
  have hr := B.returns
  have hlocks := B.notSynchronized
  have ht : ∀ w ∈ gx_tb, w.before _ s = true := fun w h => atoms_spec (ws := w_Mo_take) B.pre w (List.mem_cons_of_mem _ h)
  have hown : s.vm.findClass R_Mo = some m.cls := findClass_of_methodNamed B.named
  have G : gx_G p m c b_Mo_take 5 s _ gx_tb R_Mo D dA := ⟨⟨hx, hb, hml, hown, ht⟩, hK⟩
  have hI : gx_I D dA adr A s.heap σ s.heap [] := ⟨hP, va_S.rf⟩
  have hl := lv_entry ([.ref (adr 722), .int p0, .int p1]) (n := 5) (Nat.le_of_ble_eq_true rfl)
  rw [lg_entry_eq]
  generalize (lg_sl ([.ref (adr 722), .int p0, .int p1]) ++ List.replicate (5 - (lg_sl ([.ref (adr 722), .int p0, .int p1])).length) Slot.unset).toArray = ls at hl ⊢
  have hl : lv_has ls 5 [(0, .ref (adr 722)), (1, .int p0), (2, .int p1)] := hl
  rw [fn_Mo_take] at hf
  refine lv_aload_n hx hb d_Mo_take_0 rfl (lv_at hl 0 rfl) ?_
  refine lv_iload_n hx hb d_Mo_take_1 rfl (lv_at hl 1 rfl) ?_
  refine lv_iconst (v := 0) hx hb d_Mo_take_2 (by decide) ?_
  refine lv_iconst (v := 5) hx hb d_Mo_take_3 (by decide) ?_
  obtain ⟨r_3, σ_1, hc_2, hf⟩ := gx_bde hf
  refine gx_go (va_runV (As := [.int p0, .int ((0 : Int32)), .int ((5 : Int32))]) (rest := []) G.1 (ct_Mo_out l D dA adr A hA N p0 ((0 : Int32)) ((5 : Int32)) σ r_3 σ_1 hc_2) (cwV 3 ht gi_Mo_80 rfl rfl rfl (by decide +kernel) ⟨Nat.le_of_ble_eq_true rfl, Nat.le_of_ble_eq_true rfl⟩) (gx_preV G hI cl_Mo (by decide)) rfl rfl hl.1 rfl (lv_room (Nat.le_of_ble_eq_true rfl)) d_Mo_take_4 ⟨Nat.zero_le _, Nat.zero_le _⟩) hI (st1 := [.int r_3]) rfl (fun H locs hI => ?_)
  refine lv_if_ne (tgt := 29) hx hb d_Mo_take_7 (by decide) (fun c_4 => ?_) (fun c_4 => ?_)
  · replace hf := (if_neg c_4).symm.trans hf
    refine lv_iconst (v := (-1)) hx hb d_Mo_take_29 (by decide) ?_
    cases hf
    exact W.iret hx hb hr (gx_F hI) hI.2.2.2 d_Mo_take_30
  · replace hf := (if_pos c_4).symm.trans hf
    refine lv_aload_n hx hb d_Mo_take_10 rfl (lv_at hl 0 rfl) ?_
    refine lv_iload_n hx hb d_Mo_take_11 rfl (lv_at hl 2 rfl) ?_
    refine lv_iconst (v := 1) hx hb d_Mo_take_12 (by decide) ?_
    refine lv_bipush (v := 100) hx hb d_Mo_take_13 (by decide) ?_
    obtain ⟨r_7, σ_5, hc_6, hf⟩ := gx_bde hf
    refine gx_go (va_runV (As := [.int p1, .int ((1 : Int32)), .int ((100 : Int32))]) (rest := []) G.1 (ct_Mo_out l D dA adr A hA N p1 ((1 : Int32)) ((100 : Int32)) σ_1 r_7 σ_5 hc_6) (cwV 3 ht gi_Mo_80 rfl rfl rfl (by decide +kernel) ⟨Nat.le_of_ble_eq_true rfl, Nat.le_of_ble_eq_true rfl⟩) (gx_preV G hI cl_Mo (by decide)) rfl rfl hl.1 rfl (lv_room (Nat.le_of_ble_eq_true rfl)) d_Mo_take_15 ⟨Nat.zero_le _, Nat.zero_le _⟩) hI (st1 := [.int r_7]) rfl (fun H locs hI => ?_)
    refine lv_if_ne (tgt := 29) hx hb d_Mo_take_18 (by decide) (fun c_8 => ?_) (fun c_8 => ?_)
    · replace hf := (if_neg c_8).symm.trans hf
      refine lv_iconst (v := (-1)) hx hb d_Mo_take_29 (by decide) ?_
      cases hf
      exact W.iret hx hb hr (gx_F hI) hI.2.2.2 d_Mo_take_30
    · replace hf := (if_pos c_8).symm.trans hf
      refine lv_aload_n hx hb d_Mo_take_21 rfl (lv_at hl 0 rfl) ?_
      refine lv_iload_n hx hb d_Mo_take_22 rfl (lv_at hl 1 rfl) ?_
      obtain ⟨r_11, σ_9, hc_10, hf⟩ := gx_bde hf
      refine gx_go (va_runV (As := [.int p0]) (rest := []) G.1 (ct_Mo_holding l D dA adr A hA N p0 σ_5 r_11 σ_9 hc_10) (cwV 1 ht gi_Mo_110 rfl rfl rfl (by decide +kernel) ⟨Nat.le_of_ble_eq_true rfl, Nat.le_of_ble_eq_true rfl⟩) (gx_preV G hI cl_Mo (by decide)) rfl rfl hl.1 rfl (lv_room (Nat.le_of_ble_eq_true rfl)) d_Mo_take_23 ⟨Nat.zero_le _, Nat.zero_le _⟩) hI (st1 := [.int r_11]) rfl (fun H locs hI => ?_)
      refine lv_if_lt (tgt := 31) hx hb d_Mo_take_26 (by decide) (fun c_12 => ?_) (fun c_12 => ?_)
      · replace hf := (if_pos c_12).symm.trans hf
        refine lv_aload_n hx hb d_Mo_take_31 rfl (lv_at hl 0 rfl) ?_
        obtain ⟨r_15, σ_13, hc_14, hf⟩ := gx_bde hf
        refine gx_go (va_runV (As := []) (rest := []) G.1 (ct_Mo_choose l D dA adr A hA N σ_9 r_15 σ_13 hc_14) (cwV 0 ht gi_Mo_114 rfl rfl rfl (by decide +kernel) ⟨Nat.le_of_ble_eq_true rfl, Nat.le_of_ble_eq_true rfl⟩) (gx_preV G hI cl_Mo (by decide)) rfl rfl hl.1 rfl (lv_room (Nat.le_of_ble_eq_true rfl)) d_Mo_take_32 ⟨Nat.zero_le _, Nat.zero_le _⟩) hI (st1 := [.int r_15]) rfl (fun H locs hI => ?_)
        refine lv_istore_n (i := 3) (lv' := [(3, .int r_15), (0, .ref (adr 722)), (1, .int p0), (2, .int p1)]) hx hb d_Mo_take_35 rfl hl (by decide) rfl (fun ls hl => ?_)
        refine lv_iload_n hx hb d_Mo_take_36 rfl (lv_at hl 0 rfl) ?_
        refine lv_if_ge (tgt := 43) hx hb d_Mo_take_37 (by decide) (fun c_16 => ?_) (fun c_16 => ?_)
        · replace hf := (if_pos c_16).symm.trans hf
          refine lv_aload_n hx hb d_Mo_take_43 rfl (lv_at hl 1 rfl) ?_
          refine gx_getR (o' := 725) G hI cl_Mo (by decide) 4 (by decide) (by decide) fl_Mo_20 d_Mo_take_44 ?_
          refine lv_iload_n hx hb d_Mo_take_47 rfl (lv_at hl 0 rfl) ?_
          obtain ⟨hi_17, hf⟩ := gx_gd hf
          refine gx_ild G hI (by decide) (gx_in hi_17 (by decide)) d_Mo_take_48 ?_
          refine lv_if_le (tgt := 62) hx hb d_Mo_take_49 (by decide) (fun c_18 => ?_) (fun c_18 => ?_)
          · replace hf := (if_pos c_18).symm.trans hf
            refine lv_aload_n hx hb d_Mo_take_62 rfl (lv_at hl 1 rfl) ?_
            refine lv_iload_n hx hb d_Mo_take_63 rfl (lv_at hl 0 rfl) ?_
            refine lv_iconst (v := 0) hx hb d_Mo_take_64 (by decide) ?_
            obtain ⟨r_21, σ_19, hc_20, hf⟩ := gx_bde hf
            refine gx_go (va_runV (As := [.int r_15, .int ((0 : Int32))]) (rest := []) G.1 (ct_Mo_inLine l D dA adr A hA N r_15 ((0 : Int32)) σ_13 r_21 σ_19 hc_20) (cwV 2 ht gi_Mo_104 rfl rfl rfl (by decide +kernel) ⟨Nat.le_of_ble_eq_true rfl, Nat.le_of_ble_eq_true rfl⟩) (gx_preV G hI cl_Mo (by decide)) rfl rfl hl.1 rfl (lv_room (Nat.le_of_ble_eq_true rfl)) d_Mo_take_65 ⟨Nat.zero_le _, Nat.zero_le _⟩) hI (st1 := [.int r_21]) rfl (fun H locs hI => ?_)
            refine lv_istore (i := 4) (lv' := [(4, .int r_21), (3, .int r_15), (0, .ref (adr 722)), (1, .int p0), (2, .int p1)]) hx hb d_Mo_take_68 hl (by decide) rfl (fun ls hl => ?_)
            refine lv_aload_n hx hb d_Mo_take_70 rfl (lv_at hl 2 rfl) ?_
            refine lv_iload hx hb d_Mo_take_71 (lv_at hl 0 rfl) ?_
            refine lv_bipush (v := 9) hx hb d_Mo_take_73 (by decide) ?_
            refine lv_iconst (v := 2) hx hb d_Mo_take_75 (by decide) ?_
            obtain ⟨σ_22, hc_23, hf⟩ := gx_bve hf
            refine gx_go (va_runV (As := [.int r_21, .int ((9 : Int32)), .int ((2 : Int32))]) (rest := []) G.1 (ct_Mo_set l D dA adr A hA N r_21 ((9 : Int32)) ((2 : Int32)) σ_19 σ_22 hc_23) (cwV 3 ht gi_Mo_69 rfl rfl rfl (by decide +kernel) ⟨Nat.le_of_ble_eq_true rfl, Nat.le_of_ble_eq_true rfl⟩) (gx_preV G hI cl_Mo (by decide)) rfl rfl hl.1 rfl (lv_room (Nat.le_of_ble_eq_true rfl)) d_Mo_take_76 ⟨Nat.zero_le _, Nat.zero_le _⟩) hI (st1 := []) rfl (fun H locs hI => ?_)
            refine lv_aload_n hx hb d_Mo_take_79 rfl (lv_at hl 2 rfl) ?_
            refine lv_iload hx hb d_Mo_take_80 (lv_at hl 0 rfl) ?_
            refine lv_bipush (v := 10) hx hb d_Mo_take_82 (by decide) ?_
            refine lv_aload_n hx hb d_Mo_take_84 rfl (lv_at hl 2 rfl) ?_
            refine gx_getI G hI cl_Mo (by decide) 1 (by decide) (by decide) fl_Mo_7 d_Mo_take_85 ?_
            refine lv_iload_n hx hb d_Mo_take_88 rfl (lv_at hl 4 rfl) ?_
            refine lv_iadd hx hb d_Mo_take_89 ?_
            obtain ⟨σ_24, hc_25, hf⟩ := gx_bve hf
            refine gx_go (va_runV (As := [.int r_21, .int ((10 : Int32)), .int ((σ_22 722 1) + p1)]) (rest := []) G.1 (ct_Mo_set l D dA adr A hA N r_21 ((10 : Int32)) ((σ_22 722 1) + p1) σ_22 σ_24 hc_25) (cwV 3 ht gi_Mo_69 rfl rfl rfl (by decide +kernel) ⟨Nat.le_of_ble_eq_true rfl, Nat.le_of_ble_eq_true rfl⟩) (gx_preV G hI cl_Mo (by decide)) rfl rfl hl.1 rfl (lv_room (Nat.le_of_ble_eq_true rfl)) d_Mo_take_90 ⟨Nat.zero_le _, Nat.zero_le _⟩) hI (st1 := []) rfl (fun H locs hI => ?_)
            refine lv_aload_n hx hb d_Mo_take_93 rfl (lv_at hl 2 rfl) ?_
            refine lv_iload hx hb d_Mo_take_94 (lv_at hl 0 rfl) ?_
            refine lv_bipush (v := 11) hx hb d_Mo_take_96 (by decide) ?_
            refine lv_iload_n hx hb d_Mo_take_98 rfl (lv_at hl 3 rfl) ?_
            obtain ⟨σ_26, hc_27, hf⟩ := gx_bve hf
            refine gx_go (va_runV (As := [.int r_21, .int ((11 : Int32)), .int p0]) (rest := []) G.1 (ct_Mo_set l D dA adr A hA N r_21 ((11 : Int32)) p0 σ_24 σ_26 hc_27) (cwV 3 ht gi_Mo_69 rfl rfl rfl (by decide +kernel) ⟨Nat.le_of_ble_eq_true rfl, Nat.le_of_ble_eq_true rfl⟩) (gx_preV G hI cl_Mo (by decide)) rfl rfl hl.1 rfl (lv_room (Nat.le_of_ble_eq_true rfl)) d_Mo_take_99 ⟨Nat.zero_le _, Nat.zero_le _⟩) hI (st1 := []) rfl (fun H locs hI => ?_)
            refine lv_aload_n hx hb d_Mo_take_102 rfl (lv_at hl 2 rfl) ?_
            obtain ⟨σ_28, hc_29, hf⟩ := gx_bve hf
            refine gx_go (va_runV (As := []) (rest := []) G.1 (ct_Mo_note l D dA adr A hA N σ_26 σ_28 hc_29) (cwV 0 ht gi_Mo_94 rfl rfl rfl (by decide +kernel) ⟨Nat.le_of_ble_eq_true rfl, Nat.le_of_ble_eq_true rfl⟩) (gx_preV G hI cl_Mo (by decide)) rfl rfl hl.1 rfl (lv_room (Nat.le_of_ble_eq_true rfl)) d_Mo_take_103 ⟨Nat.zero_le _, Nat.zero_le _⟩) hI (st1 := []) rfl (fun H locs hI => ?_)
            refine lv_iload hx hb d_Mo_take_106 (lv_at hl 0 rfl) ?_
            cases hf
            exact W.iret hx hb hr (gx_F hI) hI.2.2.2 d_Mo_take_108
          · replace hf := (if_neg c_18).symm.trans hf
            refine lv_aload_n hx hb d_Mo_take_52 rfl (lv_at hl 1 rfl) ?_
            refine gx_getR (o' := 726) G hI cl_Mo (by decide) 5 (by decide) (by decide) fl_Mo_23 d_Mo_take_53 ?_
            refine lv_iload_n hx hb d_Mo_take_56 rfl (lv_at hl 0 rfl) ?_
            refine lv_dup2_11 hx hb d_Mo_take_57 rfl rfl ?_
            obtain ⟨hi_30, hf⟩ := gx_gd hf
            refine gx_ild G hI (by decide) (gx_in hi_30 (by decide)) d_Mo_take_58 ?_
            refine lv_iconst (v := 1) hx hb d_Mo_take_59 (by decide) ?_
            refine lv_isub hx hb d_Mo_take_60 ?_
            obtain ⟨hi_31, hf⟩ := gx_gd hf
            obtain ⟨σ_32, eσ_32, hf⟩ := gx_lte hf
            refine gx_ist G hI hA (by decide) (gx_in hi_31 (by decide)) eσ_32 d_Mo_take_61 (fun H locs hI => ?_)
            refine lv_aload_n hx hb d_Mo_take_62 rfl (lv_at hl 1 rfl) ?_
            refine lv_iload_n hx hb d_Mo_take_63 rfl (lv_at hl 0 rfl) ?_
            refine lv_iconst (v := 0) hx hb d_Mo_take_64 (by decide) ?_
            obtain ⟨r_35, σ_33, hc_34, hf⟩ := gx_bde hf
            refine gx_go (va_runV (As := [.int r_15, .int ((0 : Int32))]) (rest := []) G.1 (ct_Mo_inLine l D dA adr A hA N r_15 ((0 : Int32)) σ_32 r_35 σ_33 hc_34) (cwV 2 ht gi_Mo_104 rfl rfl rfl (by decide +kernel) ⟨Nat.le_of_ble_eq_true rfl, Nat.le_of_ble_eq_true rfl⟩) (gx_preV G hI cl_Mo (by decide)) rfl rfl hl.1 rfl (lv_room (Nat.le_of_ble_eq_true rfl)) d_Mo_take_65 ⟨Nat.zero_le _, Nat.zero_le _⟩) hI (st1 := [.int r_35]) rfl (fun H locs hI => ?_)
            refine lv_istore (i := 4) (lv' := [(4, .int r_35), (3, .int r_15), (0, .ref (adr 722)), (1, .int p0), (2, .int p1)]) hx hb d_Mo_take_68 hl (by decide) rfl (fun ls hl => ?_)
            refine lv_aload_n hx hb d_Mo_take_70 rfl (lv_at hl 2 rfl) ?_
            refine lv_iload hx hb d_Mo_take_71 (lv_at hl 0 rfl) ?_
            refine lv_bipush (v := 9) hx hb d_Mo_take_73 (by decide) ?_
            refine lv_iconst (v := 2) hx hb d_Mo_take_75 (by decide) ?_
            obtain ⟨σ_36, hc_37, hf⟩ := gx_bve hf
            refine gx_go (va_runV (As := [.int r_35, .int ((9 : Int32)), .int ((2 : Int32))]) (rest := []) G.1 (ct_Mo_set l D dA adr A hA N r_35 ((9 : Int32)) ((2 : Int32)) σ_33 σ_36 hc_37) (cwV 3 ht gi_Mo_69 rfl rfl rfl (by decide +kernel) ⟨Nat.le_of_ble_eq_true rfl, Nat.le_of_ble_eq_true rfl⟩) (gx_preV G hI cl_Mo (by decide)) rfl rfl hl.1 rfl (lv_room (Nat.le_of_ble_eq_true rfl)) d_Mo_take_76 ⟨Nat.zero_le _, Nat.zero_le _⟩) hI (st1 := []) rfl (fun H locs hI => ?_)
            refine lv_aload_n hx hb d_Mo_take_79 rfl (lv_at hl 2 rfl) ?_
            refine lv_iload hx hb d_Mo_take_80 (lv_at hl 0 rfl) ?_
            refine lv_bipush (v := 10) hx hb d_Mo_take_82 (by decide) ?_
            refine lv_aload_n hx hb d_Mo_take_84 rfl (lv_at hl 2 rfl) ?_
            refine gx_getI G hI cl_Mo (by decide) 1 (by decide) (by decide) fl_Mo_7 d_Mo_take_85 ?_
            refine lv_iload_n hx hb d_Mo_take_88 rfl (lv_at hl 4 rfl) ?_
            refine lv_iadd hx hb d_Mo_take_89 ?_
            obtain ⟨σ_38, hc_39, hf⟩ := gx_bve hf
            refine gx_go (va_runV (As := [.int r_35, .int ((10 : Int32)), .int ((σ_36 722 1) + p1)]) (rest := []) G.1 (ct_Mo_set l D dA adr A hA N r_35 ((10 : Int32)) ((σ_36 722 1) + p1) σ_36 σ_38 hc_39) (cwV 3 ht gi_Mo_69 rfl rfl rfl (by decide +kernel) ⟨Nat.le_of_ble_eq_true rfl, Nat.le_of_ble_eq_true rfl⟩) (gx_preV G hI cl_Mo (by decide)) rfl rfl hl.1 rfl (lv_room (Nat.le_of_ble_eq_true rfl)) d_Mo_take_90 ⟨Nat.zero_le _, Nat.zero_le _⟩) hI (st1 := []) rfl (fun H locs hI => ?_)
            refine lv_aload_n hx hb d_Mo_take_93 rfl (lv_at hl 2 rfl) ?_
            refine lv_iload hx hb d_Mo_take_94 (lv_at hl 0 rfl) ?_
            refine lv_bipush (v := 11) hx hb d_Mo_take_96 (by decide) ?_
            refine lv_iload_n hx hb d_Mo_take_98 rfl (lv_at hl 3 rfl) ?_
            obtain ⟨σ_40, hc_41, hf⟩ := gx_bve hf
            refine gx_go (va_runV (As := [.int r_35, .int ((11 : Int32)), .int p0]) (rest := []) G.1 (ct_Mo_set l D dA adr A hA N r_35 ((11 : Int32)) p0 σ_38 σ_40 hc_41) (cwV 3 ht gi_Mo_69 rfl rfl rfl (by decide +kernel) ⟨Nat.le_of_ble_eq_true rfl, Nat.le_of_ble_eq_true rfl⟩) (gx_preV G hI cl_Mo (by decide)) rfl rfl hl.1 rfl (lv_room (Nat.le_of_ble_eq_true rfl)) d_Mo_take_99 ⟨Nat.zero_le _, Nat.zero_le _⟩) hI (st1 := []) rfl (fun H locs hI => ?_)
            refine lv_aload_n hx hb d_Mo_take_102 rfl (lv_at hl 2 rfl) ?_
            obtain ⟨σ_42, hc_43, hf⟩ := gx_bve hf
            refine gx_go (va_runV (As := []) (rest := []) G.1 (ct_Mo_note l D dA adr A hA N σ_40 σ_42 hc_43) (cwV 0 ht gi_Mo_94 rfl rfl rfl (by decide +kernel) ⟨Nat.le_of_ble_eq_true rfl, Nat.le_of_ble_eq_true rfl⟩) (gx_preV G hI cl_Mo (by decide)) rfl rfl hl.1 rfl (lv_room (Nat.le_of_ble_eq_true rfl)) d_Mo_take_103 ⟨Nat.zero_le _, Nat.zero_le _⟩) hI (st1 := []) rfl (fun H locs hI => ?_)
            refine lv_iload hx hb d_Mo_take_106 (lv_at hl 0 rfl) ?_
            cases hf
            exact W.iret hx hb hr (gx_F hI) hI.2.2.2 d_Mo_take_108
        · replace hf := (if_neg c_16).symm.trans hf
          refine lv_bipush (v := (-4)) hx hb d_Mo_take_40 (by decide) ?_
          cases hf
          exact W.iret hx hb hr (gx_F hI) hI.2.2.2 d_Mo_take_42
      · replace hf := (if_neg c_12).symm.trans hf
        refine lv_iconst (v := (-1)) hx hb d_Mo_take_29 (by decide) ?_
        cases hf
        exact W.iret hx hb hr (gx_F hI) hI.2.2.2 d_Mo_take_30
def fn_Mo_ack (N : Nat) (p0 : Int32) (σ : gx_M) : Option (Int32 × gx_M) := gx_bd (fn_Mo_out N p0 ((0 : Int32)) ((5 : Int32)) σ) (fun r_3 σ_1 => if r_3 = 0 then (gx_bd (fn_Mo_holding N p0 σ_1) (fun r_7 σ_5 => if 0 ≤ r_7 then (gx_bd (fn_Mo_holding N p0 σ_5) (fun r_11 σ_9 => gx_bd (fn_Mo_of N r_11 ((6 : Int32)) σ_9) (fun r_14 σ_12 => gx_bv (fn_Mo_set N r_11 ((9 : Int32)) ((4 : Int32)) σ_12) (fun σ_15 => gx_bv (fn_Mo_set N r_11 ((11 : Int32)) ((-1 : Int32)) σ_15) (fun σ_17 => if r_14 < 0 then (gx_bv (fn_Mo_note N σ_17) (fun σ_20 => some (r_11, σ_20))) else (gx_bd (fn_Mo_of N r_14 ((7 : Int32)) σ_17) (fun r_24 σ_22 => gx_bv (fn_Mo_set N r_14 ((7 : Int32)) (r_24 - ((1 : Int32))) σ_22) (fun σ_25 => gx_bd (fn_Mo_of N r_14 ((9 : Int32)) σ_25) (fun r_29 σ_27 => if r_29 = ((6 : Int32)) then (gx_bd (fn_Mo_of N r_14 ((8 : Int32)) σ_27) (fun r_35 σ_33 => if r_35 = ((1 : Int32)) then (gx_bd (fn_Mo_of N r_14 ((7 : Int32)) σ_33) (fun r_41 σ_39 => if r_41 = 0 then (gx_bv (fn_Mo_ready N r_14 σ_39) (fun σ_45 => gx_bv (fn_Mo_note N σ_45) (fun σ_47 => some (r_11, σ_47)))) else (gx_bv (fn_Mo_note N σ_39) (fun σ_43 => some (r_11, σ_43))))) else (gx_bv (fn_Mo_note N σ_33) (fun σ_37 => some (r_11, σ_37))))) else (gx_bv (fn_Mo_note N σ_27) (fun σ_31 => some (r_11, σ_31)))))))))))) else (some ((-1 : Int32), σ_5)))) else (some ((-1 : Int32), σ_1)))
set_option maxHeartbeats 4000000 in
set_option maxRecDepth 100000 in
theorem ct_Mo_ack (l : Launch) (D : va_G) (dA : Nat → ClassId) (adr : Nat → Nat) (A : Nat → Prop) (hA : gx_A A adr) (N : Nat) (p0 : Int32) (σ : gx_M) (r : Int32) (σ' : gx_M) (hf : fn_Mo_ack N p0 σ = some (r, σ')) : Met l y_Mo_ack w_Mo_ack rm_Mo_ack (gx_Pc D dA adr σ [.ref (adr 722), .int p0]) (gx_Q D dA adr A (some (.int r)) σ') 0 0 A := by
  refine Met.ofW (cc := b_Mo_ack) (maxL := 4) (ret := some .int) (by decide) rfl ?_
  intro p e s m args below meth c s₁ B hml hv
  obtain ⟨rfl, hP, hK⟩ := hv
  have hx := B.exec
  have hb := B.bytes
  have hr := B.returns
  have hlocks := B.notSynchronized
  have ht : ∀ w ∈ gx_tb, w.before _ s = true := fun w h => atoms_spec (ws := w_Mo_ack) B.pre w (List.mem_cons_of_mem _ h)
  have hown : s.vm.findClass R_Mo = some m.cls := findClass_of_methodNamed B.named
  have G : gx_G p m c b_Mo_ack 4 s _ gx_tb R_Mo D dA := ⟨⟨hx, hb, hml, hown, ht⟩, hK⟩
  have hI : gx_I D dA adr A s.heap σ s.heap [] := ⟨hP, va_S.rf⟩
  have hl := lv_entry ([.ref (adr 722), .int p0]) (n := 4) (Nat.le_of_ble_eq_true rfl)
  rw [lg_entry_eq]
  generalize (lg_sl ([.ref (adr 722), .int p0]) ++ List.replicate (4 - (lg_sl ([.ref (adr 722), .int p0])).length) Slot.unset).toArray = ls at hl ⊢
  have hl : lv_has ls 4 [(0, .ref (adr 722)), (1, .int p0)] := hl
  rw [fn_Mo_ack] at hf
  refine lv_aload_n hx hb d_Mo_ack_0 rfl (lv_at hl 0 rfl) ?_
  refine lv_iload_n hx hb d_Mo_ack_1 rfl (lv_at hl 1 rfl) ?_
  refine lv_iconst (v := 0) hx hb d_Mo_ack_2 (by decide) ?_
  refine lv_iconst (v := 5) hx hb d_Mo_ack_3 (by decide) ?_
  obtain ⟨r_3, σ_1, hc_2, hf⟩ := gx_bde hf
  refine gx_go (va_runV (As := [.int p0, .int ((0 : Int32)), .int ((5 : Int32))]) (rest := []) G.1 (ct_Mo_out l D dA adr A hA N p0 ((0 : Int32)) ((5 : Int32)) σ r_3 σ_1 hc_2) (cwV 3 ht gi_Mo_80 rfl rfl rfl (by decide +kernel) ⟨Nat.le_of_ble_eq_true rfl, Nat.le_of_ble_eq_true rfl⟩) (gx_preV G hI cl_Mo (by decide)) rfl rfl hl.1 rfl (lv_room (Nat.le_of_ble_eq_true rfl)) d_Mo_ack_4 ⟨Nat.zero_le _, Nat.zero_le _⟩) hI (st1 := [.int r_3]) rfl (fun H locs hI => ?_)
  refine lv_if_ne (tgt := 18) hx hb d_Mo_ack_7 (by decide) (fun c_4 => ?_) (fun c_4 => ?_)
  · replace hf := (if_neg c_4).symm.trans hf
    refine lv_iconst (v := (-1)) hx hb d_Mo_ack_18 (by decide) ?_
    cases hf
    exact W.iret hx hb hr (gx_F hI) hI.2.2.2 d_Mo_ack_19
  · replace hf := (if_pos c_4).symm.trans hf
    refine lv_aload_n hx hb d_Mo_ack_10 rfl (lv_at hl 0 rfl) ?_
    refine lv_iload_n hx hb d_Mo_ack_11 rfl (lv_at hl 1 rfl) ?_
    obtain ⟨r_7, σ_5, hc_6, hf⟩ := gx_bde hf
    refine gx_go (va_runV (As := [.int p0]) (rest := []) G.1 (ct_Mo_holding l D dA adr A hA N p0 σ_1 r_7 σ_5 hc_6) (cwV 1 ht gi_Mo_110 rfl rfl rfl (by decide +kernel) ⟨Nat.le_of_ble_eq_true rfl, Nat.le_of_ble_eq_true rfl⟩) (gx_preV G hI cl_Mo (by decide)) rfl rfl hl.1 rfl (lv_room (Nat.le_of_ble_eq_true rfl)) d_Mo_ack_12 ⟨Nat.zero_le _, Nat.zero_le _⟩) hI (st1 := [.int r_7]) rfl (fun H locs hI => ?_)
    refine lv_if_ge (tgt := 20) hx hb d_Mo_ack_15 (by decide) (fun c_8 => ?_) (fun c_8 => ?_)
    · replace hf := (if_pos c_8).symm.trans hf
      refine lv_aload_n hx hb d_Mo_ack_20 rfl (lv_at hl 0 rfl) ?_
      refine lv_iload_n hx hb d_Mo_ack_21 rfl (lv_at hl 1 rfl) ?_
      obtain ⟨r_11, σ_9, hc_10, hf⟩ := gx_bde hf
      refine gx_go (va_runV (As := [.int p0]) (rest := []) G.1 (ct_Mo_holding l D dA adr A hA N p0 σ_5 r_11 σ_9 hc_10) (cwV 1 ht gi_Mo_110 rfl rfl rfl (by decide +kernel) ⟨Nat.le_of_ble_eq_true rfl, Nat.le_of_ble_eq_true rfl⟩) (gx_preV G hI cl_Mo (by decide)) rfl rfl hl.1 rfl (lv_room (Nat.le_of_ble_eq_true rfl)) d_Mo_ack_22 ⟨Nat.zero_le _, Nat.zero_le _⟩) hI (st1 := [.int r_11]) rfl (fun H locs hI => ?_)
      refine lv_istore_n (i := 2) (lv' := [(2, .int r_11), (0, .ref (adr 722)), (1, .int p0)]) hx hb d_Mo_ack_25 rfl hl (by decide) rfl (fun ls hl => ?_)
      refine lv_aload_n hx hb d_Mo_ack_26 rfl (lv_at hl 1 rfl) ?_
      refine lv_iload_n hx hb d_Mo_ack_27 rfl (lv_at hl 0 rfl) ?_
      refine lv_bipush (v := 6) hx hb d_Mo_ack_28 (by decide) ?_
      obtain ⟨r_14, σ_12, hc_13, hf⟩ := gx_bde hf
      refine gx_go (va_runV (As := [.int r_11, .int ((6 : Int32))]) (rest := []) G.1 (ct_Mo_of l D dA adr A hA N r_11 ((6 : Int32)) σ_9 r_14 σ_12 hc_13) (cwV 2 ht gi_Mo_65 rfl rfl rfl (by decide +kernel) ⟨Nat.le_of_ble_eq_true rfl, Nat.le_of_ble_eq_true rfl⟩) (gx_preV G hI cl_Mo (by decide)) rfl rfl hl.1 rfl (lv_room (Nat.le_of_ble_eq_true rfl)) d_Mo_ack_30 ⟨Nat.zero_le _, Nat.zero_le _⟩) hI (st1 := [.int r_14]) rfl (fun H locs hI => ?_)
      refine lv_istore_n (i := 3) (lv' := [(3, .int r_14), (2, .int r_11), (0, .ref (adr 722)), (1, .int p0)]) hx hb d_Mo_ack_33 rfl hl (by decide) rfl (fun ls hl => ?_)
      refine lv_aload_n hx hb d_Mo_ack_34 rfl (lv_at hl 2 rfl) ?_
      refine lv_iload_n hx hb d_Mo_ack_35 rfl (lv_at hl 1 rfl) ?_
      refine lv_bipush (v := 9) hx hb d_Mo_ack_36 (by decide) ?_
      refine lv_iconst (v := 4) hx hb d_Mo_ack_38 (by decide) ?_
      obtain ⟨σ_15, hc_16, hf⟩ := gx_bve hf
      refine gx_go (va_runV (As := [.int r_11, .int ((9 : Int32)), .int ((4 : Int32))]) (rest := []) G.1 (ct_Mo_set l D dA adr A hA N r_11 ((9 : Int32)) ((4 : Int32)) σ_12 σ_15 hc_16) (cwV 3 ht gi_Mo_69 rfl rfl rfl (by decide +kernel) ⟨Nat.le_of_ble_eq_true rfl, Nat.le_of_ble_eq_true rfl⟩) (gx_preV G hI cl_Mo (by decide)) rfl rfl hl.1 rfl (lv_room (Nat.le_of_ble_eq_true rfl)) d_Mo_ack_39 ⟨Nat.zero_le _, Nat.zero_le _⟩) hI (st1 := []) rfl (fun H locs hI => ?_)
      refine lv_aload_n hx hb d_Mo_ack_42 rfl (lv_at hl 2 rfl) ?_
      refine lv_iload_n hx hb d_Mo_ack_43 rfl (lv_at hl 1 rfl) ?_
      refine lv_bipush (v := 11) hx hb d_Mo_ack_44 (by decide) ?_
      refine lv_iconst (v := (-1)) hx hb d_Mo_ack_46 (by decide) ?_
      obtain ⟨σ_17, hc_18, hf⟩ := gx_bve hf
      refine gx_go (va_runV (As := [.int r_11, .int ((11 : Int32)), .int ((-1 : Int32))]) (rest := []) G.1 (ct_Mo_set l D dA adr A hA N r_11 ((11 : Int32)) ((-1 : Int32)) σ_15 σ_17 hc_18) (cwV 3 ht gi_Mo_69 rfl rfl rfl (by decide +kernel) ⟨Nat.le_of_ble_eq_true rfl, Nat.le_of_ble_eq_true rfl⟩) (gx_preV G hI cl_Mo (by decide)) rfl rfl hl.1 rfl (lv_room (Nat.le_of_ble_eq_true rfl)) d_Mo_ack_47 ⟨Nat.zero_le _, Nat.zero_le _⟩) hI (st1 := []) rfl (fun H locs hI => ?_)
      refine lv_iload_n hx hb d_Mo_ack_50 rfl (lv_at hl 0 rfl) ?_
      refine lv_if_lt (tgt := 108) hx hb d_Mo_ack_51 (by decide) (fun c_19 => ?_) (fun c_19 => ?_)
      · replace hf := (if_pos c_19).symm.trans hf
        refine lv_aload_n hx hb d_Mo_ack_108 rfl (lv_at hl 2 rfl) ?_
        obtain ⟨σ_20, hc_21, hf⟩ := gx_bve hf
        refine gx_go (va_runV (As := []) (rest := []) G.1 (ct_Mo_note l D dA adr A hA N σ_17 σ_20 hc_21) (cwV 0 ht gi_Mo_94 rfl rfl rfl (by decide +kernel) ⟨Nat.le_of_ble_eq_true rfl, Nat.le_of_ble_eq_true rfl⟩) (gx_preV G hI cl_Mo (by decide)) rfl rfl hl.1 rfl (lv_room (Nat.le_of_ble_eq_true rfl)) d_Mo_ack_109 ⟨Nat.zero_le _, Nat.zero_le _⟩) hI (st1 := []) rfl (fun H locs hI => ?_)
        refine lv_iload_n hx hb d_Mo_ack_112 rfl (lv_at hl 1 rfl) ?_
        cases hf
        exact W.iret hx hb hr (gx_F hI) hI.2.2.2 d_Mo_ack_113
      · replace hf := (if_neg c_19).symm.trans hf
        refine lv_aload_n hx hb d_Mo_ack_54 rfl (lv_at hl 2 rfl) ?_
        refine lv_iload_n hx hb d_Mo_ack_55 rfl (lv_at hl 0 rfl) ?_
        refine lv_bipush (v := 7) hx hb d_Mo_ack_56 (by decide) ?_
        refine lv_aload_n hx hb d_Mo_ack_58 rfl (lv_at hl 2 rfl) ?_
        refine lv_iload_n hx hb d_Mo_ack_59 rfl (lv_at hl 0 rfl) ?_
        refine lv_bipush (v := 7) hx hb d_Mo_ack_60 (by decide) ?_
        obtain ⟨r_24, σ_22, hc_23, hf⟩ := gx_bde hf
        refine gx_go (va_runV (As := [.int r_14, .int ((7 : Int32))]) (rest := [.int ((7 : Int32)), .int r_14, .ref (adr 722)]) G.1 (ct_Mo_of l D dA adr A hA N r_14 ((7 : Int32)) σ_17 r_24 σ_22 hc_23) (cwV 2 ht gi_Mo_65 rfl rfl rfl (by decide +kernel) ⟨Nat.le_of_ble_eq_true rfl, Nat.le_of_ble_eq_true rfl⟩) (gx_preV G hI cl_Mo (by decide)) rfl rfl hl.1 rfl (lv_room (Nat.le_of_ble_eq_true rfl)) d_Mo_ack_62 ⟨Nat.zero_le _, Nat.zero_le _⟩) hI (st1 := [.int r_24, .int ((7 : Int32)), .int r_14, .ref (adr 722)]) rfl (fun H locs hI => ?_)
        refine lv_iconst (v := 1) hx hb d_Mo_ack_65 (by decide) ?_
        refine lv_isub hx hb d_Mo_ack_66 ?_
        obtain ⟨σ_25, hc_26, hf⟩ := gx_bve hf
        refine gx_go (va_runV (As := [.int r_14, .int ((7 : Int32)), .int (r_24 - ((1 : Int32)))]) (rest := []) G.1 (ct_Mo_set l D dA adr A hA N r_14 ((7 : Int32)) (r_24 - ((1 : Int32))) σ_22 σ_25 hc_26) (cwV 3 ht gi_Mo_69 rfl rfl rfl (by decide +kernel) ⟨Nat.le_of_ble_eq_true rfl, Nat.le_of_ble_eq_true rfl⟩) (gx_preV G hI cl_Mo (by decide)) rfl rfl hl.1 rfl (lv_room (Nat.le_of_ble_eq_true rfl)) d_Mo_ack_67 ⟨Nat.zero_le _, Nat.zero_le _⟩) hI (st1 := []) rfl (fun H locs hI => ?_)
        refine lv_aload_n hx hb d_Mo_ack_70 rfl (lv_at hl 2 rfl) ?_
        refine lv_iload_n hx hb d_Mo_ack_71 rfl (lv_at hl 0 rfl) ?_
        refine lv_bipush (v := 9) hx hb d_Mo_ack_72 (by decide) ?_
        obtain ⟨r_29, σ_27, hc_28, hf⟩ := gx_bde hf
        refine gx_go (va_runV (As := [.int r_14, .int ((9 : Int32))]) (rest := []) G.1 (ct_Mo_of l D dA adr A hA N r_14 ((9 : Int32)) σ_25 r_29 σ_27 hc_28) (cwV 2 ht gi_Mo_65 rfl rfl rfl (by decide +kernel) ⟨Nat.le_of_ble_eq_true rfl, Nat.le_of_ble_eq_true rfl⟩) (gx_preV G hI cl_Mo (by decide)) rfl rfl hl.1 rfl (lv_room (Nat.le_of_ble_eq_true rfl)) d_Mo_ack_74 ⟨Nat.zero_le _, Nat.zero_le _⟩) hI (st1 := [.int r_29]) rfl (fun H locs hI => ?_)
        refine lv_bipush (v := 6) hx hb d_Mo_ack_77 (by decide) ?_
        refine lv_icmp_ne (tgt := 108) hx hb d_Mo_ack_79 (by decide) (fun c_30 => ?_) (fun c_30 => ?_)
        · replace hf := (if_neg c_30).symm.trans hf
          refine lv_aload_n hx hb d_Mo_ack_108 rfl (lv_at hl 2 rfl) ?_
          obtain ⟨σ_31, hc_32, hf⟩ := gx_bve hf
          refine gx_go (va_runV (As := []) (rest := []) G.1 (ct_Mo_note l D dA adr A hA N σ_27 σ_31 hc_32) (cwV 0 ht gi_Mo_94 rfl rfl rfl (by decide +kernel) ⟨Nat.le_of_ble_eq_true rfl, Nat.le_of_ble_eq_true rfl⟩) (gx_preV G hI cl_Mo (by decide)) rfl rfl hl.1 rfl (lv_room (Nat.le_of_ble_eq_true rfl)) d_Mo_ack_109 ⟨Nat.zero_le _, Nat.zero_le _⟩) hI (st1 := []) rfl (fun H locs hI => ?_)
          refine lv_iload_n hx hb d_Mo_ack_112 rfl (lv_at hl 1 rfl) ?_
          cases hf
          exact W.iret hx hb hr (gx_F hI) hI.2.2.2 d_Mo_ack_113
        · replace hf := (if_pos c_30).symm.trans hf
          refine lv_aload_n hx hb d_Mo_ack_82 rfl (lv_at hl 2 rfl) ?_
          refine lv_iload_n hx hb d_Mo_ack_83 rfl (lv_at hl 0 rfl) ?_
          refine lv_bipush (v := 8) hx hb d_Mo_ack_84 (by decide) ?_
          obtain ⟨r_35, σ_33, hc_34, hf⟩ := gx_bde hf
          refine gx_go (va_runV (As := [.int r_14, .int ((8 : Int32))]) (rest := []) G.1 (ct_Mo_of l D dA adr A hA N r_14 ((8 : Int32)) σ_27 r_35 σ_33 hc_34) (cwV 2 ht gi_Mo_65 rfl rfl rfl (by decide +kernel) ⟨Nat.le_of_ble_eq_true rfl, Nat.le_of_ble_eq_true rfl⟩) (gx_preV G hI cl_Mo (by decide)) rfl rfl hl.1 rfl (lv_room (Nat.le_of_ble_eq_true rfl)) d_Mo_ack_86 ⟨Nat.zero_le _, Nat.zero_le _⟩) hI (st1 := [.int r_35]) rfl (fun H locs hI => ?_)
          refine lv_iconst (v := 1) hx hb d_Mo_ack_89 (by decide) ?_
          refine lv_icmp_ne (tgt := 108) hx hb d_Mo_ack_90 (by decide) (fun c_36 => ?_) (fun c_36 => ?_)
          · replace hf := (if_neg c_36).symm.trans hf
            refine lv_aload_n hx hb d_Mo_ack_108 rfl (lv_at hl 2 rfl) ?_
            obtain ⟨σ_37, hc_38, hf⟩ := gx_bve hf
            refine gx_go (va_runV (As := []) (rest := []) G.1 (ct_Mo_note l D dA adr A hA N σ_33 σ_37 hc_38) (cwV 0 ht gi_Mo_94 rfl rfl rfl (by decide +kernel) ⟨Nat.le_of_ble_eq_true rfl, Nat.le_of_ble_eq_true rfl⟩) (gx_preV G hI cl_Mo (by decide)) rfl rfl hl.1 rfl (lv_room (Nat.le_of_ble_eq_true rfl)) d_Mo_ack_109 ⟨Nat.zero_le _, Nat.zero_le _⟩) hI (st1 := []) rfl (fun H locs hI => ?_)
            refine lv_iload_n hx hb d_Mo_ack_112 rfl (lv_at hl 1 rfl) ?_
            cases hf
            exact W.iret hx hb hr (gx_F hI) hI.2.2.2 d_Mo_ack_113
          · replace hf := (if_pos c_36).symm.trans hf
            refine lv_aload_n hx hb d_Mo_ack_93 rfl (lv_at hl 2 rfl) ?_
            refine lv_iload_n hx hb d_Mo_ack_94 rfl (lv_at hl 0 rfl) ?_
            refine lv_bipush (v := 7) hx hb d_Mo_ack_95 (by decide) ?_
            obtain ⟨r_41, σ_39, hc_40, hf⟩ := gx_bde hf
            refine gx_go (va_runV (As := [.int r_14, .int ((7 : Int32))]) (rest := []) G.1 (ct_Mo_of l D dA adr A hA N r_14 ((7 : Int32)) σ_33 r_41 σ_39 hc_40) (cwV 2 ht gi_Mo_65 rfl rfl rfl (by decide +kernel) ⟨Nat.le_of_ble_eq_true rfl, Nat.le_of_ble_eq_true rfl⟩) (gx_preV G hI cl_Mo (by decide)) rfl rfl hl.1 rfl (lv_room (Nat.le_of_ble_eq_true rfl)) d_Mo_ack_97 ⟨Nat.zero_le _, Nat.zero_le _⟩) hI (st1 := [.int r_41]) rfl (fun H locs hI => ?_)
            refine lv_if_ne (tgt := 108) hx hb d_Mo_ack_100 (by decide) (fun c_42 => ?_) (fun c_42 => ?_)
            · replace hf := (if_neg c_42).symm.trans hf
              refine lv_aload_n hx hb d_Mo_ack_108 rfl (lv_at hl 2 rfl) ?_
              obtain ⟨σ_43, hc_44, hf⟩ := gx_bve hf
              refine gx_go (va_runV (As := []) (rest := []) G.1 (ct_Mo_note l D dA adr A hA N σ_39 σ_43 hc_44) (cwV 0 ht gi_Mo_94 rfl rfl rfl (by decide +kernel) ⟨Nat.le_of_ble_eq_true rfl, Nat.le_of_ble_eq_true rfl⟩) (gx_preV G hI cl_Mo (by decide)) rfl rfl hl.1 rfl (lv_room (Nat.le_of_ble_eq_true rfl)) d_Mo_ack_109 ⟨Nat.zero_le _, Nat.zero_le _⟩) hI (st1 := []) rfl (fun H locs hI => ?_)
              refine lv_iload_n hx hb d_Mo_ack_112 rfl (lv_at hl 1 rfl) ?_
              cases hf
              exact W.iret hx hb hr (gx_F hI) hI.2.2.2 d_Mo_ack_113
            · replace hf := (if_pos c_42).symm.trans hf
              refine lv_aload_n hx hb d_Mo_ack_103 rfl (lv_at hl 2 rfl) ?_
              refine lv_iload_n hx hb d_Mo_ack_104 rfl (lv_at hl 0 rfl) ?_
              obtain ⟨σ_45, hc_46, hf⟩ := gx_bve hf
              refine gx_go (va_runV (As := [.int r_14]) (rest := []) G.1 (ct_Mo_ready l D dA adr A hA N r_14 σ_39 σ_45 hc_46) (cwV 1 ht gi_Mo_91 rfl rfl rfl (by decide +kernel) ⟨Nat.le_of_ble_eq_true rfl, Nat.le_of_ble_eq_true rfl⟩) (gx_preV G hI cl_Mo (by decide)) rfl rfl hl.1 rfl (lv_room (Nat.le_of_ble_eq_true rfl)) d_Mo_ack_105 ⟨Nat.zero_le _, Nat.zero_le _⟩) hI (st1 := []) rfl (fun H locs hI => ?_)
              refine lv_aload_n hx hb d_Mo_ack_108 rfl (lv_at hl 2 rfl) ?_
              obtain ⟨σ_47, hc_48, hf⟩ := gx_bve hf
              refine gx_go (va_runV (As := []) (rest := []) G.1 (ct_Mo_note l D dA adr A hA N σ_45 σ_47 hc_48) (cwV 0 ht gi_Mo_94 rfl rfl rfl (by decide +kernel) ⟨Nat.le_of_ble_eq_true rfl, Nat.le_of_ble_eq_true rfl⟩) (gx_preV G hI cl_Mo (by decide)) rfl rfl hl.1 rfl (lv_room (Nat.le_of_ble_eq_true rfl)) d_Mo_ack_109 ⟨Nat.zero_le _, Nat.zero_le _⟩) hI (st1 := []) rfl (fun H locs hI => ?_)
              refine lv_iload_n hx hb d_Mo_ack_112 rfl (lv_at hl 1 rfl) ?_
              cases hf
              exact W.iret hx hb hr (gx_F hI) hI.2.2.2 d_Mo_ack_113
    · replace hf := (if_neg c_8).symm.trans hf
      refine lv_iconst (v := (-1)) hx hb d_Mo_ack_18 (by decide) ?_
      cases hf
      exact W.iret hx hb hr (gx_F hI) hI.2.2.2 d_Mo_ack_19
def fn_Mo_fail (N : Nat) (p0 : Int32) (σ : gx_M) : Option (Int32 × gx_M) := gx_bd (fn_Mo_out N p0 ((0 : Int32)) ((5 : Int32)) σ) (fun r_3 σ_1 => if r_3 = 0 then (gx_bd (fn_Mo_holding N p0 σ_1) (fun r_7 σ_5 => if 0 ≤ r_7 then (gx_bd (fn_Mo_holding N p0 σ_5) (fun r_11 σ_9 => gx_bv (fn_Mo_failing N r_11 σ_9) (fun σ_12 => gx_bv (fn_Mo_note N σ_12) (fun σ_14 => some (r_11, σ_14))))) else (some ((-1 : Int32), σ_5)))) else (some ((-1 : Int32), σ_1)))
set_option maxHeartbeats 4000000 in
set_option maxRecDepth 100000 in
theorem ct_Mo_fail (l : Launch) (D : va_G) (dA : Nat → ClassId) (adr : Nat → Nat) (A : Nat → Prop) (hA : gx_A A adr) (N : Nat) (p0 : Int32) (σ : gx_M) (r : Int32) (σ' : gx_M) (hf : fn_Mo_fail N p0 σ = some (r, σ')) : Met l y_Mo_fail w_Mo_fail rm_Mo_fail (gx_Pc D dA adr σ [.ref (adr 722), .int p0]) (gx_Q D dA adr A (some (.int r)) σ') 0 0 A := by
  refine Met.ofW (cc := b_Mo_fail) (maxL := 3) (ret := some .int) (by decide) rfl ?_
  intro p e s m args below meth c s₁ B hml hv
  obtain ⟨rfl, hP, hK⟩ := hv
  have hx := B.exec
  have hb := B.bytes
  have hr := B.returns
  have hlocks := B.notSynchronized
  have ht : ∀ w ∈ gx_tb, w.before _ s = true := fun w h => atoms_spec (ws := w_Mo_fail) B.pre w (List.mem_cons_of_mem _ h)
  have hown : s.vm.findClass R_Mo = some m.cls := findClass_of_methodNamed B.named
  have G : gx_G p m c b_Mo_fail 3 s _ gx_tb R_Mo D dA := ⟨⟨hx, hb, hml, hown, ht⟩, hK⟩
  have hI : gx_I D dA adr A s.heap σ s.heap [] := ⟨hP, va_S.rf⟩
  have hl := lv_entry ([.ref (adr 722), .int p0]) (n := 3) (Nat.le_of_ble_eq_true rfl)
  rw [lg_entry_eq]
  generalize (lg_sl ([.ref (adr 722), .int p0]) ++ List.replicate (3 - (lg_sl ([.ref (adr 722), .int p0])).length) Slot.unset).toArray = ls at hl ⊢
  have hl : lv_has ls 3 [(0, .ref (adr 722)), (1, .int p0)] := hl
  rw [fn_Mo_fail] at hf
  refine lv_aload_n hx hb d_Mo_fail_0 rfl (lv_at hl 0 rfl) ?_
  refine lv_iload_n hx hb d_Mo_fail_1 rfl (lv_at hl 1 rfl) ?_
  refine lv_iconst (v := 0) hx hb d_Mo_fail_2 (by decide) ?_
  refine lv_iconst (v := 5) hx hb d_Mo_fail_3 (by decide) ?_
  obtain ⟨r_3, σ_1, hc_2, hf⟩ := gx_bde hf
  refine gx_go (va_runV (As := [.int p0, .int ((0 : Int32)), .int ((5 : Int32))]) (rest := []) G.1 (ct_Mo_out l D dA adr A hA N p0 ((0 : Int32)) ((5 : Int32)) σ r_3 σ_1 hc_2) (cwV 3 ht gi_Mo_80 rfl rfl rfl (by decide +kernel) ⟨Nat.le_of_ble_eq_true rfl, Nat.le_of_ble_eq_true rfl⟩) (gx_preV G hI cl_Mo (by decide)) rfl rfl hl.1 rfl (lv_room (Nat.le_of_ble_eq_true rfl)) d_Mo_fail_4 ⟨Nat.zero_le _, Nat.zero_le _⟩) hI (st1 := [.int r_3]) rfl (fun H locs hI => ?_)
  refine lv_if_ne (tgt := 18) hx hb d_Mo_fail_7 (by decide) (fun c_4 => ?_) (fun c_4 => ?_)
  · replace hf := (if_neg c_4).symm.trans hf
    refine lv_iconst (v := (-1)) hx hb d_Mo_fail_18 (by decide) ?_
    cases hf
    exact W.iret hx hb hr (gx_F hI) hI.2.2.2 d_Mo_fail_19
  · replace hf := (if_pos c_4).symm.trans hf
    refine lv_aload_n hx hb d_Mo_fail_10 rfl (lv_at hl 0 rfl) ?_
    refine lv_iload_n hx hb d_Mo_fail_11 rfl (lv_at hl 1 rfl) ?_
    obtain ⟨r_7, σ_5, hc_6, hf⟩ := gx_bde hf
    refine gx_go (va_runV (As := [.int p0]) (rest := []) G.1 (ct_Mo_holding l D dA adr A hA N p0 σ_1 r_7 σ_5 hc_6) (cwV 1 ht gi_Mo_110 rfl rfl rfl (by decide +kernel) ⟨Nat.le_of_ble_eq_true rfl, Nat.le_of_ble_eq_true rfl⟩) (gx_preV G hI cl_Mo (by decide)) rfl rfl hl.1 rfl (lv_room (Nat.le_of_ble_eq_true rfl)) d_Mo_fail_12 ⟨Nat.zero_le _, Nat.zero_le _⟩) hI (st1 := [.int r_7]) rfl (fun H locs hI => ?_)
    refine lv_if_ge (tgt := 20) hx hb d_Mo_fail_15 (by decide) (fun c_8 => ?_) (fun c_8 => ?_)
    · replace hf := (if_pos c_8).symm.trans hf
      refine lv_aload_n hx hb d_Mo_fail_20 rfl (lv_at hl 0 rfl) ?_
      refine lv_iload_n hx hb d_Mo_fail_21 rfl (lv_at hl 1 rfl) ?_
      obtain ⟨r_11, σ_9, hc_10, hf⟩ := gx_bde hf
      refine gx_go (va_runV (As := [.int p0]) (rest := []) G.1 (ct_Mo_holding l D dA adr A hA N p0 σ_5 r_11 σ_9 hc_10) (cwV 1 ht gi_Mo_110 rfl rfl rfl (by decide +kernel) ⟨Nat.le_of_ble_eq_true rfl, Nat.le_of_ble_eq_true rfl⟩) (gx_preV G hI cl_Mo (by decide)) rfl rfl hl.1 rfl (lv_room (Nat.le_of_ble_eq_true rfl)) d_Mo_fail_22 ⟨Nat.zero_le _, Nat.zero_le _⟩) hI (st1 := [.int r_11]) rfl (fun H locs hI => ?_)
      refine lv_istore_n (i := 2) (lv' := [(2, .int r_11), (0, .ref (adr 722)), (1, .int p0)]) hx hb d_Mo_fail_25 rfl hl (by decide) rfl (fun ls hl => ?_)
      refine lv_aload_n hx hb d_Mo_fail_26 rfl (lv_at hl 1 rfl) ?_
      refine lv_iload_n hx hb d_Mo_fail_27 rfl (lv_at hl 0 rfl) ?_
      obtain ⟨σ_12, hc_13, hf⟩ := gx_bve hf
      refine gx_go (va_runV (As := [.int r_11]) (rest := []) G.1 (ct_Mo_failing l D dA adr A hA N r_11 σ_9 σ_12 hc_13) (cwV 1 ht gi_Mo_118 rfl rfl rfl (by decide +kernel) ⟨Nat.le_of_ble_eq_true rfl, Nat.le_of_ble_eq_true rfl⟩) (gx_preV G hI cl_Mo (by decide)) rfl rfl hl.1 rfl (lv_room (Nat.le_of_ble_eq_true rfl)) d_Mo_fail_28 ⟨Nat.zero_le _, Nat.zero_le _⟩) hI (st1 := []) rfl (fun H locs hI => ?_)
      refine lv_aload_n hx hb d_Mo_fail_31 rfl (lv_at hl 1 rfl) ?_
      obtain ⟨σ_14, hc_15, hf⟩ := gx_bve hf
      refine gx_go (va_runV (As := []) (rest := []) G.1 (ct_Mo_note l D dA adr A hA N σ_12 σ_14 hc_15) (cwV 0 ht gi_Mo_94 rfl rfl rfl (by decide +kernel) ⟨Nat.le_of_ble_eq_true rfl, Nat.le_of_ble_eq_true rfl⟩) (gx_preV G hI cl_Mo (by decide)) rfl rfl hl.1 rfl (lv_room (Nat.le_of_ble_eq_true rfl)) d_Mo_fail_32 ⟨Nat.zero_le _, Nat.zero_le _⟩) hI (st1 := []) rfl (fun H locs hI => ?_)
      refine lv_iload_n hx hb d_Mo_fail_35 rfl (lv_at hl 0 rfl) ?_
      cases hf
      exact W.iret hx hb hr (gx_F hI) hI.2.2.2 d_Mo_fail_36
    · replace hf := (if_neg c_8).symm.trans hf
      refine lv_iconst (v := (-1)) hx hb d_Mo_fail_18 (by decide) ?_
      cases hf
      exact W.iret hx hb hr (gx_F hI) hI.2.2.2 d_Mo_fail_19
def fn_Mo_wake_L37 (N : Nat) (u3 : Int32) (u2 : Int32) (u1 : Int32) (k25 : Int32 → Int32 → gx_M → Option (Int32 × gx_M)) : Nat → Int32 → Int32 → gx_M → Option (Int32 × gx_M)
  | 0, _, _, _ => none
  | n + 1, v5, v4, σ => if (σ 722 9) ≤ v5 then (if 0 ≤ v4 then (if 0 ≤ v4 ∧ v4 < 40 then (gx_lt (gx_up σ 732 v4.toNatClampNeg ((1 : Int32))) (fun σ_6 => gx_bd (fn_Mo_of N v4 ((9 : Int32)) σ_6) (fun r_9 σ_7 => if r_9 = ((2 : Int32)) then (gx_bv (fn_Mo_failing N v4 σ_7) (fun σ_13 => k25 (u3 + 1) (u2 + 1) σ_13)) else (gx_bv (fn_Mo_ready N v4 σ_7) (fun σ_11 => k25 (u3 + 1) (u2 + 1) σ_11))))) else none) else (some (u2, σ))) else (gx_bd (fn_Mo_of N v5 ((9 : Int32)) σ) (fun r_17 σ_15 => if r_17 = 0 then (gx_bd (fn_Mo_of N v5 ((10 : Int32)) σ_15) (fun r_21 σ_19 => if (σ_19 722 1) < r_21 then (fn_Mo_wake_L37 N u3 u2 u1 k25 n (v5 + 1) v4 σ_19) else (if 0 ≤ v5 ∧ v5 < 40 then (if (σ_19 732 v5.toNatClampNeg) = 0 then (if v4 < 0 then (fn_Mo_wake_L37 N u3 u2 u1 k25 n (v5 + 1) v5 σ_19) else (gx_bd (fn_Mo_of N v5 ((10 : Int32)) σ_19) (fun r_31 σ_29 => gx_bd (fn_Mo_of N v4 ((10 : Int32)) σ_29) (fun r_34 σ_32 => if r_34 ≤ r_31 then (fn_Mo_wake_L37 N u3 u2 u1 k25 n (v5 + 1) v4 σ_32) else (fn_Mo_wake_L37 N u3 u2 u1 k25 n (v5 + 1) v5 σ_32))))) else (fn_Mo_wake_L37 N u3 u2 u1 k25 n (v5 + 1) v4 σ_19)) else none))) else (if r_17 = ((3 : Int32)) then (gx_bd (fn_Mo_of N v5 ((10 : Int32)) σ_15) (fun r_39 σ_37 => if (σ_37 722 1) < r_39 then (fn_Mo_wake_L37 N u3 u2 u1 k25 n (v5 + 1) v4 σ_37) else (if 0 ≤ v5 ∧ v5 < 40 then (if (σ_37 732 v5.toNatClampNeg) = 0 then (if v4 < 0 then (fn_Mo_wake_L37 N u3 u2 u1 k25 n (v5 + 1) v5 σ_37) else (gx_bd (fn_Mo_of N v5 ((10 : Int32)) σ_37) (fun r_49 σ_47 => gx_bd (fn_Mo_of N v4 ((10 : Int32)) σ_47) (fun r_52 σ_50 => if r_52 ≤ r_49 then (fn_Mo_wake_L37 N u3 u2 u1 k25 n (v5 + 1) v4 σ_50) else (fn_Mo_wake_L37 N u3 u2 u1 k25 n (v5 + 1) v5 σ_50))))) else (fn_Mo_wake_L37 N u3 u2 u1 k25 n (v5 + 1) v4 σ_37)) else none))) else (if r_17 = ((2 : Int32)) then (if u1 = 0 then (gx_bd (fn_Mo_of N v5 ((10 : Int32)) σ_15) (fun r_60 σ_58 => if (σ_58 722 1) < r_60 then (fn_Mo_wake_L37 N u3 u2 u1 k25 n (v5 + 1) v4 σ_58) else (if 0 ≤ v5 ∧ v5 < 40 then (if (σ_58 732 v5.toNatClampNeg) = 0 then (if v4 < 0 then (fn_Mo_wake_L37 N u3 u2 u1 k25 n (v5 + 1) v5 σ_58) else (gx_bd (fn_Mo_of N v5 ((10 : Int32)) σ_58) (fun r_70 σ_68 => gx_bd (fn_Mo_of N v4 ((10 : Int32)) σ_68) (fun r_73 σ_71 => if r_73 ≤ r_70 then (fn_Mo_wake_L37 N u3 u2 u1 k25 n (v5 + 1) v4 σ_71) else (fn_Mo_wake_L37 N u3 u2 u1 k25 n (v5 + 1) v5 σ_71))))) else (fn_Mo_wake_L37 N u3 u2 u1 k25 n (v5 + 1) v4 σ_58)) else none))) else (fn_Mo_wake_L37 N u3 u2 u1 k25 n (v5 + 1) v4 σ_15)) else (fn_Mo_wake_L37 N u3 u2 u1 k25 n (v5 + 1) v4 σ_15)))))
def fn_Mo_wake_L25 (N : Nat) (u1 : Int32) : Nat → Int32 → Int32 → gx_M → Option (Int32 × gx_M)
  | 0, _, _, _ => none
  | n + 1, v3, v2, σ => if ((40 : Int32)) ≤ v3 then (some (v2, σ)) else (fn_Mo_wake_L37 N v3 v2 u1 (fn_Mo_wake_L25 N u1 n) N ((0 : Int32)) ((-1 : Int32)) σ)
def fn_Mo_wake_L4 (N : Nat) (u2 : Int32) (u1 : Int32) : Nat → Int32 → gx_M → Option (Int32 × gx_M)
  | 0, _, _ => none
  | n + 1, v3, σ => if ((40 : Int32)) ≤ v3 then (fn_Mo_wake_L25 N u1 N ((0 : Int32)) u2 σ) else (if 0 ≤ v3 ∧ v3 < 40 then (gx_lt (gx_up σ 732 v3.toNatClampNeg ((0 : Int32))) (fun σ_76 => fn_Mo_wake_L4 N u2 u1 n (v3 + 1) σ_76)) else none)
def fn_Mo_wake (N : Nat) (p0 : Int32) (σ : gx_M) : Option (Int32 × gx_M) := fn_Mo_wake_L4 N ((0 : Int32)) p0 N ((0 : Int32)) σ
set_option maxHeartbeats 4000000 in
set_option maxRecDepth 100000 in
theorem wl_Mo_wake_L37 {p : Program} {l : Launch} {e : Env} {s : State} {m : MethodId} {args : Array Value} {below : List Frame} {meth : Method} {c : Code} {D : va_G} {dA : Nat → ClassId} {adr : Nat → Nat} {A : Nat → Prop} (G : gx_G p m c b_Mo_wake 8 s args gx_tb R_Mo D dA) (hr : meth.sig.returnType = some .int) (hlocks : meth.locks = false) (hA : gx_A A adr) (N : Nat) (res : Int32 × gx_M) (u3 : Int32) (u2 : Int32) (u1 : Int32) (k25 : Int32 → Int32 → gx_M → Option (Int32 × gx_M)) (hk25 : ∀ (a0 : Int32) (a1 : Int32) (σ : gx_M) (H : Heap) (locs : List Loc) (ls : Array Slot), k25 a0 a1 σ = some res → gx_I D dA adr A s.heap σ H locs → lv_has ls 8 [(3, .int a0), (2, .int a1), (0, .ref (adr 722)), (1, .int u1)] → W p l e (headSpec w_Mo_wake rm_Mo_wake).room s m args below meth c H locs 0 0 (MQ below (gx_Q D dA adr A (some (.int res.1)) res.2) args s 0 0 A) (F0 m 25 ls [])) : ∀ (n : Nat) (v5 : Int32) (v4 : Int32) (σ : gx_M) (H : Heap) (locs : List Loc) (ls : Array Slot), fn_Mo_wake_L37 N u3 u2 u1 k25 n v5 v4 σ = some res → gx_I D dA adr A s.heap σ H locs → lv_has ls 8 [(5, .int v5), (4, .int v4), (3, .int u3), (2, .int u2), (0, .ref (adr 722)), (1, .int u1)] → W p l e (headSpec w_Mo_wake rm_Mo_wake).room s m args below meth c H locs 0 0 (MQ below (gx_Q D dA adr A (some (.int res.1)) res.2) args s 0 0 A) (F0 m 37 ls []) := by
  obtain ⟨⟨hx, hb, hml, hown, ht⟩, hK⟩ := id G
  intro n
  induction n with
  | zero =>
    intro v5 v4 σ H locs ls hf
    cases hf
  | succ n ih =>
    intro v5 v4 σ H locs ls hf hI hl
    rw [fn_Mo_wake_L37] at hf
    refine lv_iload hx hb d_Mo_wake_37 (lv_at hl 0 rfl) ?_
    refine lv_aload_n hx hb d_Mo_wake_39 rfl (lv_at hl 4 rfl) ?_
    refine gx_getI G hI cl_Mo (by decide) 9 (by decide) (by decide) fl_Mo_35 d_Mo_wake_40 ?_
    refine lv_icmp_ge (tgt := 148) hx hb d_Mo_wake_43 (by decide) (fun c_3 => ?_) (fun c_3 => ?_)
    · replace hf := (if_pos c_3).symm.trans hf
      refine lv_iload hx hb d_Mo_wake_148 (lv_at hl 1 rfl) ?_
      refine lv_if_ge (tgt := 155) hx hb d_Mo_wake_150 (by decide) (fun c_4 => ?_) (fun c_4 => ?_)
      · replace hf := (if_pos c_4).symm.trans hf
        refine lv_aload_n hx hb d_Mo_wake_155 rfl (lv_at hl 4 rfl) ?_
        refine gx_getR (o' := 732) G hI cl_Mo (by decide) 15 (by decide) (by decide) fl_Mo_53 d_Mo_wake_156 ?_
        refine lv_iload hx hb d_Mo_wake_159 (lv_at hl 1 rfl) ?_
        refine lv_iconst (v := 1) hx hb d_Mo_wake_161 (by decide) ?_
        obtain ⟨hi_5, hf⟩ := gx_gd hf
        obtain ⟨σ_6, eσ_6, hf⟩ := gx_lte hf
        refine gx_zst G hI hA (by decide) (gx_in hi_5 (by decide)) eσ_6 d_Mo_wake_162 (fun H locs hI => ?_)
        refine lv_iinc (v := u2 + 1) (lv' := [(2, .int (u2 + 1)), (5, .int v5), (4, .int v4), (3, .int u3), (0, .ref (adr 722)), (1, .int u1)]) hx hb d_Mo_wake_163 hl (k := 3) rfl rfl (by decide) rfl (fun ls hl => ?_)
        refine lv_aload_n hx hb d_Mo_wake_166 rfl (lv_at hl 4 rfl) ?_
        refine lv_iload hx hb d_Mo_wake_167 (lv_at hl 2 rfl) ?_
        refine lv_bipush (v := 9) hx hb d_Mo_wake_169 (by decide) ?_
        obtain ⟨r_9, σ_7, hc_8, hf⟩ := gx_bde hf
        refine gx_go (va_runV (As := [.int v4, .int ((9 : Int32))]) (rest := []) G.1 (ct_Mo_of l D dA adr A hA N v4 ((9 : Int32)) σ_6 r_9 σ_7 hc_8) (cwV 2 ht gi_Mo_65 rfl rfl rfl (by decide +kernel) ⟨Nat.le_of_ble_eq_true rfl, Nat.le_of_ble_eq_true rfl⟩) (gx_preV G hI cl_Mo (by decide)) rfl rfl hl.1 rfl (lv_room (Nat.le_of_ble_eq_true rfl)) d_Mo_wake_171 ⟨Nat.zero_le _, Nat.zero_le _⟩) hI (st1 := [.int r_9]) rfl (fun H locs hI => ?_)
        refine lv_iconst (v := 2) hx hb d_Mo_wake_174 (by decide) ?_
        refine lv_icmp_ne (tgt := 187) hx hb d_Mo_wake_175 (by decide) (fun c_10 => ?_) (fun c_10 => ?_)
        · replace hf := (if_neg c_10).symm.trans hf
          refine lv_aload_n hx hb d_Mo_wake_187 rfl (lv_at hl 4 rfl) ?_
          refine lv_iload hx hb d_Mo_wake_188 (lv_at hl 2 rfl) ?_
          obtain ⟨σ_11, hc_12, hf⟩ := gx_bve hf
          refine gx_go (va_runV (As := [.int v4]) (rest := []) G.1 (ct_Mo_ready l D dA adr A hA N v4 σ_7 σ_11 hc_12) (cwV 1 ht gi_Mo_91 rfl rfl rfl (by decide +kernel) ⟨Nat.le_of_ble_eq_true rfl, Nat.le_of_ble_eq_true rfl⟩) (gx_preV G hI cl_Mo (by decide)) rfl rfl hl.1 rfl (lv_room (Nat.le_of_ble_eq_true rfl)) d_Mo_wake_190 ⟨Nat.zero_le _, Nat.zero_le _⟩) hI (st1 := []) rfl (fun H locs hI => ?_)
          refine lv_iinc (v := u3 + 1) (lv' := [(3, .int (u3 + 1)), (2, .int (u2 + 1)), (5, .int v5), (4, .int v4), (0, .ref (adr 722)), (1, .int u1)]) hx hb d_Mo_wake_193 hl (k := 3) rfl rfl (by decide) rfl (fun ls hl => ?_)
          refine lv_goto (tgt := 25) hx hb d_Mo_wake_196 (by decide) ?_
          exact hk25 (u3 + 1) (u2 + 1) σ_11 H locs ls hf hI (lv_sub hl [0, 1, 4, 5] rfl)
        · replace hf := (if_pos c_10).symm.trans hf
          refine lv_aload_n hx hb d_Mo_wake_178 rfl (lv_at hl 4 rfl) ?_
          refine lv_iload hx hb d_Mo_wake_179 (lv_at hl 2 rfl) ?_
          obtain ⟨σ_13, hc_14, hf⟩ := gx_bve hf
          refine gx_go (va_runV (As := [.int v4]) (rest := []) G.1 (ct_Mo_failing l D dA adr A hA N v4 σ_7 σ_13 hc_14) (cwV 1 ht gi_Mo_118 rfl rfl rfl (by decide +kernel) ⟨Nat.le_of_ble_eq_true rfl, Nat.le_of_ble_eq_true rfl⟩) (gx_preV G hI cl_Mo (by decide)) rfl rfl hl.1 rfl (lv_room (Nat.le_of_ble_eq_true rfl)) d_Mo_wake_181 ⟨Nat.zero_le _, Nat.zero_le _⟩) hI (st1 := []) rfl (fun H locs hI => ?_)
          refine lv_goto (tgt := 193) hx hb d_Mo_wake_184 (by decide) ?_
          refine lv_iinc (v := u3 + 1) (lv' := [(3, .int (u3 + 1)), (2, .int (u2 + 1)), (5, .int v5), (4, .int v4), (0, .ref (adr 722)), (1, .int u1)]) hx hb d_Mo_wake_193 hl (k := 3) rfl rfl (by decide) rfl (fun ls hl => ?_)
          refine lv_goto (tgt := 25) hx hb d_Mo_wake_196 (by decide) ?_
          exact hk25 (u3 + 1) (u2 + 1) σ_13 H locs ls hf hI (lv_sub hl [0, 1, 4, 5] rfl)
      · replace hf := (if_neg c_4).symm.trans hf
        refine lv_iload_n hx hb d_Mo_wake_153 rfl (lv_at hl 3 rfl) ?_
        cases hf
        exact W.iret hx hb hr (gx_F hI) hI.2.2.2 d_Mo_wake_154
    · replace hf := (if_neg c_3).symm.trans hf
      refine lv_aload_n hx hb d_Mo_wake_46 rfl (lv_at hl 4 rfl) ?_
      refine lv_iload hx hb d_Mo_wake_47 (lv_at hl 0 rfl) ?_
      refine lv_bipush (v := 9) hx hb d_Mo_wake_49 (by decide) ?_
      obtain ⟨r_17, σ_15, hc_16, hf⟩ := gx_bde hf
      refine gx_go (va_runV (As := [.int v5, .int ((9 : Int32))]) (rest := []) G.1 (ct_Mo_of l D dA adr A hA N v5 ((9 : Int32)) σ r_17 σ_15 hc_16) (cwV 2 ht gi_Mo_65 rfl rfl rfl (by decide +kernel) ⟨Nat.le_of_ble_eq_true rfl, Nat.le_of_ble_eq_true rfl⟩) (gx_preV G hI cl_Mo (by decide)) rfl rfl hl.1 rfl (lv_room (Nat.le_of_ble_eq_true rfl)) d_Mo_wake_51 ⟨Nat.zero_le _, Nat.zero_le _⟩) hI (st1 := [.int r_17]) rfl (fun H locs hI => ?_)
      refine lv_istore (i := 6) (lv' := [(6, .int r_17), (5, .int v5), (4, .int v4), (3, .int u3), (2, .int u2), (0, .ref (adr 722)), (1, .int u1)]) hx hb d_Mo_wake_54 hl (by decide) rfl (fun ls hl => ?_)
      refine lv_iload hx hb d_Mo_wake_56 (lv_at hl 0 rfl) ?_
      refine lv_if_eq (tgt := 77) hx hb d_Mo_wake_58 (by decide) (fun c_18 => ?_) (fun c_18 => ?_)
      · replace hf := (if_pos c_18).symm.trans hf
        refine lv_aload_n hx hb d_Mo_wake_77 rfl (lv_at hl 5 rfl) ?_
        refine lv_iload hx hb d_Mo_wake_78 (lv_at hl 1 rfl) ?_
        refine lv_bipush (v := 10) hx hb d_Mo_wake_80 (by decide) ?_
        obtain ⟨r_21, σ_19, hc_20, hf⟩ := gx_bde hf
        refine gx_go (va_runV (As := [.int v5, .int ((10 : Int32))]) (rest := []) G.1 (ct_Mo_of l D dA adr A hA N v5 ((10 : Int32)) σ_15 r_21 σ_19 hc_20) (cwV 2 ht gi_Mo_65 rfl rfl rfl (by decide +kernel) ⟨Nat.le_of_ble_eq_true rfl, Nat.le_of_ble_eq_true rfl⟩) (gx_preV G hI cl_Mo (by decide)) rfl rfl hl.1 rfl (lv_room (Nat.le_of_ble_eq_true rfl)) d_Mo_wake_82 ⟨Nat.zero_le _, Nat.zero_le _⟩) hI (st1 := [.int r_21]) rfl (fun H locs hI => ?_)
        refine lv_aload_n hx hb d_Mo_wake_85 rfl (lv_at hl 5 rfl) ?_
        refine gx_getI G hI cl_Mo (by decide) 1 (by decide) (by decide) fl_Mo_7 d_Mo_wake_86 ?_
        refine lv_icmp_gt (tgt := 106) hx hb d_Mo_wake_89 (by decide) (fun c_22 => ?_) (fun c_22 => ?_)
        · replace hf := (if_pos c_22).symm.trans hf
          refine lv_iconst (v := 0) hx hb d_Mo_wake_106 (by decide) ?_
          refine lv_istore (i := 7) (lv' := [(7, .int ((0 : Int32))), (6, .int r_17), (5, .int v5), (4, .int v4), (3, .int u3), (2, .int u2), (0, .ref (adr 722)), (1, .int u1)]) hx hb d_Mo_wake_107 hl (by decide) rfl (fun ls hl => ?_)
          refine lv_iload hx hb d_Mo_wake_109 (lv_at hl 0 rfl) ?_
          refine lv_if_eq (tgt := 142) hx hb d_Mo_wake_111 (by decide) (fun _ => ?_) (fun c_23 => absurd c_23 (by decide))
          refine lv_iinc (v := v5 + 1) (lv' := [(5, .int (v5 + 1)), (7, .int ((0 : Int32))), (6, .int r_17), (4, .int v4), (3, .int u3), (2, .int u2), (0, .ref (adr 722)), (1, .int u1)]) hx hb d_Mo_wake_142 hl (k := 2) rfl rfl (by decide) rfl (fun ls hl => ?_)
          refine lv_goto (tgt := 37) hx hb d_Mo_wake_145 (by decide) ?_
          exact ih (v5 + 1) v4 σ_19 H locs ls hf hI (lv_sub hl [0, 3, 4, 5, 6, 7] rfl)
        · replace hf := (if_neg c_22).symm.trans hf
          refine lv_aload_n hx hb d_Mo_wake_92 rfl (lv_at hl 5 rfl) ?_
          refine gx_getR (o' := 732) G hI cl_Mo (by decide) 15 (by decide) (by decide) fl_Mo_53 d_Mo_wake_93 ?_
          refine lv_iload hx hb d_Mo_wake_96 (lv_at hl 1 rfl) ?_
          obtain ⟨hi_24, hf⟩ := gx_gd hf
          refine gx_zld G hI (gx_in hi_24 (by decide)) d_Mo_wake_98 ?_
          refine lv_if_ne (tgt := 106) hx hb d_Mo_wake_99 (by decide) (fun c_25 => ?_) (fun c_25 => ?_)
          · replace hf := (if_neg c_25).symm.trans hf
            refine lv_iconst (v := 0) hx hb d_Mo_wake_106 (by decide) ?_
            refine lv_istore (i := 7) (lv' := [(7, .int ((0 : Int32))), (6, .int r_17), (5, .int v5), (4, .int v4), (3, .int u3), (2, .int u2), (0, .ref (adr 722)), (1, .int u1)]) hx hb d_Mo_wake_107 hl (by decide) rfl (fun ls hl => ?_)
            refine lv_iload hx hb d_Mo_wake_109 (lv_at hl 0 rfl) ?_
            refine lv_if_eq (tgt := 142) hx hb d_Mo_wake_111 (by decide) (fun _ => ?_) (fun c_26 => absurd c_26 (by decide))
            refine lv_iinc (v := v5 + 1) (lv' := [(5, .int (v5 + 1)), (7, .int ((0 : Int32))), (6, .int r_17), (4, .int v4), (3, .int u3), (2, .int u2), (0, .ref (adr 722)), (1, .int u1)]) hx hb d_Mo_wake_142 hl (k := 2) rfl rfl (by decide) rfl (fun ls hl => ?_)
            refine lv_goto (tgt := 37) hx hb d_Mo_wake_145 (by decide) ?_
            exact ih (v5 + 1) v4 σ_19 H locs ls hf hI (lv_sub hl [0, 3, 4, 5, 6, 7] rfl)
          · replace hf := (if_pos c_25).symm.trans hf
            refine lv_iconst (v := 1) hx hb d_Mo_wake_102 (by decide) ?_
            refine lv_goto (tgt := 107) hx hb d_Mo_wake_103 (by decide) ?_
            refine lv_istore (i := 7) (lv' := [(7, .int ((1 : Int32))), (6, .int r_17), (5, .int v5), (4, .int v4), (3, .int u3), (2, .int u2), (0, .ref (adr 722)), (1, .int u1)]) hx hb d_Mo_wake_107 hl (by decide) rfl (fun ls hl => ?_)
            refine lv_iload hx hb d_Mo_wake_109 (lv_at hl 0 rfl) ?_
            refine lv_if_eq (tgt := 142) hx hb d_Mo_wake_111 (by decide) (fun c_27 => absurd c_27 (by decide)) (fun _ => ?_)
            refine lv_iload hx hb d_Mo_wake_114 (lv_at hl 3 rfl) ?_
            refine lv_if_lt (tgt := 138) hx hb d_Mo_wake_116 (by decide) (fun c_28 => ?_) (fun c_28 => ?_)
            · replace hf := (if_pos c_28).symm.trans hf
              refine lv_iload hx hb d_Mo_wake_138 (lv_at hl 2 rfl) ?_
              refine lv_istore (i := 4) (lv' := [(4, .int v5), (7, .int ((1 : Int32))), (6, .int r_17), (5, .int v5), (3, .int u3), (2, .int u2), (0, .ref (adr 722)), (1, .int u1)]) hx hb d_Mo_wake_140 hl (by decide) rfl (fun ls hl => ?_)
              refine lv_iinc (v := v5 + 1) (lv' := [(5, .int (v5 + 1)), (4, .int v5), (7, .int ((1 : Int32))), (6, .int r_17), (3, .int u3), (2, .int u2), (0, .ref (adr 722)), (1, .int u1)]) hx hb d_Mo_wake_142 hl (k := 3) rfl rfl (by decide) rfl (fun ls hl => ?_)
              refine lv_goto (tgt := 37) hx hb d_Mo_wake_145 (by decide) ?_
              exact ih (v5 + 1) v5 σ_19 H locs ls hf hI (lv_sub hl [0, 1, 4, 5, 6, 7] rfl)
            · replace hf := (if_neg c_28).symm.trans hf
              refine lv_aload_n hx hb d_Mo_wake_119 rfl (lv_at hl 6 rfl) ?_
              refine lv_iload hx hb d_Mo_wake_120 (lv_at hl 2 rfl) ?_
              refine lv_bipush (v := 10) hx hb d_Mo_wake_122 (by decide) ?_
              obtain ⟨r_31, σ_29, hc_30, hf⟩ := gx_bde hf
              refine gx_go (va_runV (As := [.int v5, .int ((10 : Int32))]) (rest := []) G.1 (ct_Mo_of l D dA adr A hA N v5 ((10 : Int32)) σ_19 r_31 σ_29 hc_30) (cwV 2 ht gi_Mo_65 rfl rfl rfl (by decide +kernel) ⟨Nat.le_of_ble_eq_true rfl, Nat.le_of_ble_eq_true rfl⟩) (gx_preV G hI cl_Mo (by decide)) rfl rfl hl.1 rfl (lv_room (Nat.le_of_ble_eq_true rfl)) d_Mo_wake_124 ⟨Nat.zero_le _, Nat.zero_le _⟩) hI (st1 := [.int r_31]) rfl (fun H locs hI => ?_)
              refine lv_aload_n hx hb d_Mo_wake_127 rfl (lv_at hl 6 rfl) ?_
              refine lv_iload hx hb d_Mo_wake_128 (lv_at hl 3 rfl) ?_
              refine lv_bipush (v := 10) hx hb d_Mo_wake_130 (by decide) ?_
              obtain ⟨r_34, σ_32, hc_33, hf⟩ := gx_bde hf
              refine gx_go (va_runV (As := [.int v4, .int ((10 : Int32))]) (rest := [.int r_31]) G.1 (ct_Mo_of l D dA adr A hA N v4 ((10 : Int32)) σ_29 r_34 σ_32 hc_33) (cwV 2 ht gi_Mo_65 rfl rfl rfl (by decide +kernel) ⟨Nat.le_of_ble_eq_true rfl, Nat.le_of_ble_eq_true rfl⟩) (gx_preV G hI cl_Mo (by decide)) rfl rfl hl.1 rfl (lv_room (Nat.le_of_ble_eq_true rfl)) d_Mo_wake_132 ⟨Nat.zero_le _, Nat.zero_le _⟩) hI (st1 := [.int r_34, .int r_31]) rfl (fun H locs hI => ?_)
              refine lv_icmp_ge (tgt := 142) hx hb d_Mo_wake_135 (by decide) (fun c_35 => ?_) (fun c_35 => ?_)
              · replace hf := (if_pos c_35).symm.trans hf
                refine lv_iinc (v := v5 + 1) (lv' := [(5, .int (v5 + 1)), (7, .int ((1 : Int32))), (6, .int r_17), (4, .int v4), (3, .int u3), (2, .int u2), (0, .ref (adr 722)), (1, .int u1)]) hx hb d_Mo_wake_142 hl (k := 2) rfl rfl (by decide) rfl (fun ls hl => ?_)
                refine lv_goto (tgt := 37) hx hb d_Mo_wake_145 (by decide) ?_
                exact ih (v5 + 1) v4 σ_32 H locs ls hf hI (lv_sub hl [0, 3, 4, 5, 6, 7] rfl)
              · replace hf := (if_neg c_35).symm.trans hf
                refine lv_iload hx hb d_Mo_wake_138 (lv_at hl 2 rfl) ?_
                refine lv_istore (i := 4) (lv' := [(4, .int v5), (7, .int ((1 : Int32))), (6, .int r_17), (5, .int v5), (3, .int u3), (2, .int u2), (0, .ref (adr 722)), (1, .int u1)]) hx hb d_Mo_wake_140 hl (by decide) rfl (fun ls hl => ?_)
                refine lv_iinc (v := v5 + 1) (lv' := [(5, .int (v5 + 1)), (4, .int v5), (7, .int ((1 : Int32))), (6, .int r_17), (3, .int u3), (2, .int u2), (0, .ref (adr 722)), (1, .int u1)]) hx hb d_Mo_wake_142 hl (k := 3) rfl rfl (by decide) rfl (fun ls hl => ?_)
                refine lv_goto (tgt := 37) hx hb d_Mo_wake_145 (by decide) ?_
                exact ih (v5 + 1) v5 σ_32 H locs ls hf hI (lv_sub hl [0, 1, 4, 5, 6, 7] rfl)
      · replace hf := (if_neg c_18).symm.trans hf
        refine lv_iload hx hb d_Mo_wake_61 (lv_at hl 0 rfl) ?_
        refine lv_iconst (v := 3) hx hb d_Mo_wake_63 (by decide) ?_
        refine lv_icmp_eq (tgt := 77) hx hb d_Mo_wake_64 (by decide) (fun c_36 => ?_) (fun c_36 => ?_)
        · replace hf := (if_pos c_36).symm.trans hf
          refine lv_aload_n hx hb d_Mo_wake_77 rfl (lv_at hl 5 rfl) ?_
          refine lv_iload hx hb d_Mo_wake_78 (lv_at hl 1 rfl) ?_
          refine lv_bipush (v := 10) hx hb d_Mo_wake_80 (by decide) ?_
          obtain ⟨r_39, σ_37, hc_38, hf⟩ := gx_bde hf
          refine gx_go (va_runV (As := [.int v5, .int ((10 : Int32))]) (rest := []) G.1 (ct_Mo_of l D dA adr A hA N v5 ((10 : Int32)) σ_15 r_39 σ_37 hc_38) (cwV 2 ht gi_Mo_65 rfl rfl rfl (by decide +kernel) ⟨Nat.le_of_ble_eq_true rfl, Nat.le_of_ble_eq_true rfl⟩) (gx_preV G hI cl_Mo (by decide)) rfl rfl hl.1 rfl (lv_room (Nat.le_of_ble_eq_true rfl)) d_Mo_wake_82 ⟨Nat.zero_le _, Nat.zero_le _⟩) hI (st1 := [.int r_39]) rfl (fun H locs hI => ?_)
          refine lv_aload_n hx hb d_Mo_wake_85 rfl (lv_at hl 5 rfl) ?_
          refine gx_getI G hI cl_Mo (by decide) 1 (by decide) (by decide) fl_Mo_7 d_Mo_wake_86 ?_
          refine lv_icmp_gt (tgt := 106) hx hb d_Mo_wake_89 (by decide) (fun c_40 => ?_) (fun c_40 => ?_)
          · replace hf := (if_pos c_40).symm.trans hf
            refine lv_iconst (v := 0) hx hb d_Mo_wake_106 (by decide) ?_
            refine lv_istore (i := 7) (lv' := [(7, .int ((0 : Int32))), (6, .int r_17), (5, .int v5), (4, .int v4), (3, .int u3), (2, .int u2), (0, .ref (adr 722)), (1, .int u1)]) hx hb d_Mo_wake_107 hl (by decide) rfl (fun ls hl => ?_)
            refine lv_iload hx hb d_Mo_wake_109 (lv_at hl 0 rfl) ?_
            refine lv_if_eq (tgt := 142) hx hb d_Mo_wake_111 (by decide) (fun _ => ?_) (fun c_41 => absurd c_41 (by decide))
            refine lv_iinc (v := v5 + 1) (lv' := [(5, .int (v5 + 1)), (7, .int ((0 : Int32))), (6, .int r_17), (4, .int v4), (3, .int u3), (2, .int u2), (0, .ref (adr 722)), (1, .int u1)]) hx hb d_Mo_wake_142 hl (k := 2) rfl rfl (by decide) rfl (fun ls hl => ?_)
            refine lv_goto (tgt := 37) hx hb d_Mo_wake_145 (by decide) ?_
            exact ih (v5 + 1) v4 σ_37 H locs ls hf hI (lv_sub hl [0, 3, 4, 5, 6, 7] rfl)
          · replace hf := (if_neg c_40).symm.trans hf
            refine lv_aload_n hx hb d_Mo_wake_92 rfl (lv_at hl 5 rfl) ?_
            refine gx_getR (o' := 732) G hI cl_Mo (by decide) 15 (by decide) (by decide) fl_Mo_53 d_Mo_wake_93 ?_
            refine lv_iload hx hb d_Mo_wake_96 (lv_at hl 1 rfl) ?_
            obtain ⟨hi_42, hf⟩ := gx_gd hf
            refine gx_zld G hI (gx_in hi_42 (by decide)) d_Mo_wake_98 ?_
            refine lv_if_ne (tgt := 106) hx hb d_Mo_wake_99 (by decide) (fun c_43 => ?_) (fun c_43 => ?_)
            · replace hf := (if_neg c_43).symm.trans hf
              refine lv_iconst (v := 0) hx hb d_Mo_wake_106 (by decide) ?_
              refine lv_istore (i := 7) (lv' := [(7, .int ((0 : Int32))), (6, .int r_17), (5, .int v5), (4, .int v4), (3, .int u3), (2, .int u2), (0, .ref (adr 722)), (1, .int u1)]) hx hb d_Mo_wake_107 hl (by decide) rfl (fun ls hl => ?_)
              refine lv_iload hx hb d_Mo_wake_109 (lv_at hl 0 rfl) ?_
              refine lv_if_eq (tgt := 142) hx hb d_Mo_wake_111 (by decide) (fun _ => ?_) (fun c_44 => absurd c_44 (by decide))
              refine lv_iinc (v := v5 + 1) (lv' := [(5, .int (v5 + 1)), (7, .int ((0 : Int32))), (6, .int r_17), (4, .int v4), (3, .int u3), (2, .int u2), (0, .ref (adr 722)), (1, .int u1)]) hx hb d_Mo_wake_142 hl (k := 2) rfl rfl (by decide) rfl (fun ls hl => ?_)
              refine lv_goto (tgt := 37) hx hb d_Mo_wake_145 (by decide) ?_
              exact ih (v5 + 1) v4 σ_37 H locs ls hf hI (lv_sub hl [0, 3, 4, 5, 6, 7] rfl)
            · replace hf := (if_pos c_43).symm.trans hf
              refine lv_iconst (v := 1) hx hb d_Mo_wake_102 (by decide) ?_
              refine lv_goto (tgt := 107) hx hb d_Mo_wake_103 (by decide) ?_
              refine lv_istore (i := 7) (lv' := [(7, .int ((1 : Int32))), (6, .int r_17), (5, .int v5), (4, .int v4), (3, .int u3), (2, .int u2), (0, .ref (adr 722)), (1, .int u1)]) hx hb d_Mo_wake_107 hl (by decide) rfl (fun ls hl => ?_)
              refine lv_iload hx hb d_Mo_wake_109 (lv_at hl 0 rfl) ?_
              refine lv_if_eq (tgt := 142) hx hb d_Mo_wake_111 (by decide) (fun c_45 => absurd c_45 (by decide)) (fun _ => ?_)
              refine lv_iload hx hb d_Mo_wake_114 (lv_at hl 3 rfl) ?_
              refine lv_if_lt (tgt := 138) hx hb d_Mo_wake_116 (by decide) (fun c_46 => ?_) (fun c_46 => ?_)
              · replace hf := (if_pos c_46).symm.trans hf
                refine lv_iload hx hb d_Mo_wake_138 (lv_at hl 2 rfl) ?_
                refine lv_istore (i := 4) (lv' := [(4, .int v5), (7, .int ((1 : Int32))), (6, .int r_17), (5, .int v5), (3, .int u3), (2, .int u2), (0, .ref (adr 722)), (1, .int u1)]) hx hb d_Mo_wake_140 hl (by decide) rfl (fun ls hl => ?_)
                refine lv_iinc (v := v5 + 1) (lv' := [(5, .int (v5 + 1)), (4, .int v5), (7, .int ((1 : Int32))), (6, .int r_17), (3, .int u3), (2, .int u2), (0, .ref (adr 722)), (1, .int u1)]) hx hb d_Mo_wake_142 hl (k := 3) rfl rfl (by decide) rfl (fun ls hl => ?_)
                refine lv_goto (tgt := 37) hx hb d_Mo_wake_145 (by decide) ?_
                exact ih (v5 + 1) v5 σ_37 H locs ls hf hI (lv_sub hl [0, 1, 4, 5, 6, 7] rfl)
              · replace hf := (if_neg c_46).symm.trans hf
                refine lv_aload_n hx hb d_Mo_wake_119 rfl (lv_at hl 6 rfl) ?_
                refine lv_iload hx hb d_Mo_wake_120 (lv_at hl 2 rfl) ?_
                refine lv_bipush (v := 10) hx hb d_Mo_wake_122 (by decide) ?_
                obtain ⟨r_49, σ_47, hc_48, hf⟩ := gx_bde hf
                refine gx_go (va_runV (As := [.int v5, .int ((10 : Int32))]) (rest := []) G.1 (ct_Mo_of l D dA adr A hA N v5 ((10 : Int32)) σ_37 r_49 σ_47 hc_48) (cwV 2 ht gi_Mo_65 rfl rfl rfl (by decide +kernel) ⟨Nat.le_of_ble_eq_true rfl, Nat.le_of_ble_eq_true rfl⟩) (gx_preV G hI cl_Mo (by decide)) rfl rfl hl.1 rfl (lv_room (Nat.le_of_ble_eq_true rfl)) d_Mo_wake_124 ⟨Nat.zero_le _, Nat.zero_le _⟩) hI (st1 := [.int r_49]) rfl (fun H locs hI => ?_)
                refine lv_aload_n hx hb d_Mo_wake_127 rfl (lv_at hl 6 rfl) ?_
                refine lv_iload hx hb d_Mo_wake_128 (lv_at hl 3 rfl) ?_
                refine lv_bipush (v := 10) hx hb d_Mo_wake_130 (by decide) ?_
                obtain ⟨r_52, σ_50, hc_51, hf⟩ := gx_bde hf
                refine gx_go (va_runV (As := [.int v4, .int ((10 : Int32))]) (rest := [.int r_49]) G.1 (ct_Mo_of l D dA adr A hA N v4 ((10 : Int32)) σ_47 r_52 σ_50 hc_51) (cwV 2 ht gi_Mo_65 rfl rfl rfl (by decide +kernel) ⟨Nat.le_of_ble_eq_true rfl, Nat.le_of_ble_eq_true rfl⟩) (gx_preV G hI cl_Mo (by decide)) rfl rfl hl.1 rfl (lv_room (Nat.le_of_ble_eq_true rfl)) d_Mo_wake_132 ⟨Nat.zero_le _, Nat.zero_le _⟩) hI (st1 := [.int r_52, .int r_49]) rfl (fun H locs hI => ?_)
                refine lv_icmp_ge (tgt := 142) hx hb d_Mo_wake_135 (by decide) (fun c_53 => ?_) (fun c_53 => ?_)
                · replace hf := (if_pos c_53).symm.trans hf
                  refine lv_iinc (v := v5 + 1) (lv' := [(5, .int (v5 + 1)), (7, .int ((1 : Int32))), (6, .int r_17), (4, .int v4), (3, .int u3), (2, .int u2), (0, .ref (adr 722)), (1, .int u1)]) hx hb d_Mo_wake_142 hl (k := 2) rfl rfl (by decide) rfl (fun ls hl => ?_)
                  refine lv_goto (tgt := 37) hx hb d_Mo_wake_145 (by decide) ?_
                  exact ih (v5 + 1) v4 σ_50 H locs ls hf hI (lv_sub hl [0, 3, 4, 5, 6, 7] rfl)
                · replace hf := (if_neg c_53).symm.trans hf
                  refine lv_iload hx hb d_Mo_wake_138 (lv_at hl 2 rfl) ?_
                  refine lv_istore (i := 4) (lv' := [(4, .int v5), (7, .int ((1 : Int32))), (6, .int r_17), (5, .int v5), (3, .int u3), (2, .int u2), (0, .ref (adr 722)), (1, .int u1)]) hx hb d_Mo_wake_140 hl (by decide) rfl (fun ls hl => ?_)
                  refine lv_iinc (v := v5 + 1) (lv' := [(5, .int (v5 + 1)), (4, .int v5), (7, .int ((1 : Int32))), (6, .int r_17), (3, .int u3), (2, .int u2), (0, .ref (adr 722)), (1, .int u1)]) hx hb d_Mo_wake_142 hl (k := 3) rfl rfl (by decide) rfl (fun ls hl => ?_)
                  refine lv_goto (tgt := 37) hx hb d_Mo_wake_145 (by decide) ?_
                  exact ih (v5 + 1) v5 σ_50 H locs ls hf hI (lv_sub hl [0, 1, 4, 5, 6, 7] rfl)
        · replace hf := (if_neg c_36).symm.trans hf
          refine lv_iload hx hb d_Mo_wake_67 (lv_at hl 0 rfl) ?_
          refine lv_iconst (v := 2) hx hb d_Mo_wake_69 (by decide) ?_
          refine lv_icmp_ne (tgt := 106) hx hb d_Mo_wake_70 (by decide) (fun c_54 => ?_) (fun c_54 => ?_)
          · replace hf := (if_neg c_54).symm.trans hf
            refine lv_iconst (v := 0) hx hb d_Mo_wake_106 (by decide) ?_
            refine lv_istore (i := 7) (lv' := [(7, .int ((0 : Int32))), (6, .int r_17), (5, .int v5), (4, .int v4), (3, .int u3), (2, .int u2), (0, .ref (adr 722)), (1, .int u1)]) hx hb d_Mo_wake_107 hl (by decide) rfl (fun ls hl => ?_)
            refine lv_iload hx hb d_Mo_wake_109 (lv_at hl 0 rfl) ?_
            refine lv_if_eq (tgt := 142) hx hb d_Mo_wake_111 (by decide) (fun _ => ?_) (fun c_55 => absurd c_55 (by decide))
            refine lv_iinc (v := v5 + 1) (lv' := [(5, .int (v5 + 1)), (7, .int ((0 : Int32))), (6, .int r_17), (4, .int v4), (3, .int u3), (2, .int u2), (0, .ref (adr 722)), (1, .int u1)]) hx hb d_Mo_wake_142 hl (k := 2) rfl rfl (by decide) rfl (fun ls hl => ?_)
            refine lv_goto (tgt := 37) hx hb d_Mo_wake_145 (by decide) ?_
            exact ih (v5 + 1) v4 σ_15 H locs ls hf hI (lv_sub hl [0, 3, 4, 5, 6, 7] rfl)
          · replace hf := (if_pos c_54).symm.trans hf
            refine lv_iload_n hx hb d_Mo_wake_73 rfl (lv_at hl 6 rfl) ?_
            refine lv_if_ne (tgt := 106) hx hb d_Mo_wake_74 (by decide) (fun c_56 => ?_) (fun c_56 => ?_)
            · replace hf := (if_neg c_56).symm.trans hf
              refine lv_iconst (v := 0) hx hb d_Mo_wake_106 (by decide) ?_
              refine lv_istore (i := 7) (lv' := [(7, .int ((0 : Int32))), (6, .int r_17), (5, .int v5), (4, .int v4), (3, .int u3), (2, .int u2), (0, .ref (adr 722)), (1, .int u1)]) hx hb d_Mo_wake_107 hl (by decide) rfl (fun ls hl => ?_)
              refine lv_iload hx hb d_Mo_wake_109 (lv_at hl 0 rfl) ?_
              refine lv_if_eq (tgt := 142) hx hb d_Mo_wake_111 (by decide) (fun _ => ?_) (fun c_57 => absurd c_57 (by decide))
              refine lv_iinc (v := v5 + 1) (lv' := [(5, .int (v5 + 1)), (7, .int ((0 : Int32))), (6, .int r_17), (4, .int v4), (3, .int u3), (2, .int u2), (0, .ref (adr 722)), (1, .int u1)]) hx hb d_Mo_wake_142 hl (k := 2) rfl rfl (by decide) rfl (fun ls hl => ?_)
              refine lv_goto (tgt := 37) hx hb d_Mo_wake_145 (by decide) ?_
              exact ih (v5 + 1) v4 σ_15 H locs ls hf hI (lv_sub hl [0, 3, 4, 5, 6, 7] rfl)
            · replace hf := (if_pos c_56).symm.trans hf
              refine lv_aload_n hx hb d_Mo_wake_77 rfl (lv_at hl 5 rfl) ?_
              refine lv_iload hx hb d_Mo_wake_78 (lv_at hl 1 rfl) ?_
              refine lv_bipush (v := 10) hx hb d_Mo_wake_80 (by decide) ?_
              obtain ⟨r_60, σ_58, hc_59, hf⟩ := gx_bde hf
              refine gx_go (va_runV (As := [.int v5, .int ((10 : Int32))]) (rest := []) G.1 (ct_Mo_of l D dA adr A hA N v5 ((10 : Int32)) σ_15 r_60 σ_58 hc_59) (cwV 2 ht gi_Mo_65 rfl rfl rfl (by decide +kernel) ⟨Nat.le_of_ble_eq_true rfl, Nat.le_of_ble_eq_true rfl⟩) (gx_preV G hI cl_Mo (by decide)) rfl rfl hl.1 rfl (lv_room (Nat.le_of_ble_eq_true rfl)) d_Mo_wake_82 ⟨Nat.zero_le _, Nat.zero_le _⟩) hI (st1 := [.int r_60]) rfl (fun H locs hI => ?_)
              refine lv_aload_n hx hb d_Mo_wake_85 rfl (lv_at hl 5 rfl) ?_
              refine gx_getI G hI cl_Mo (by decide) 1 (by decide) (by decide) fl_Mo_7 d_Mo_wake_86 ?_
              refine lv_icmp_gt (tgt := 106) hx hb d_Mo_wake_89 (by decide) (fun c_61 => ?_) (fun c_61 => ?_)
              · replace hf := (if_pos c_61).symm.trans hf
                refine lv_iconst (v := 0) hx hb d_Mo_wake_106 (by decide) ?_
                refine lv_istore (i := 7) (lv' := [(7, .int ((0 : Int32))), (6, .int r_17), (5, .int v5), (4, .int v4), (3, .int u3), (2, .int u2), (0, .ref (adr 722)), (1, .int u1)]) hx hb d_Mo_wake_107 hl (by decide) rfl (fun ls hl => ?_)
                refine lv_iload hx hb d_Mo_wake_109 (lv_at hl 0 rfl) ?_
                refine lv_if_eq (tgt := 142) hx hb d_Mo_wake_111 (by decide) (fun _ => ?_) (fun c_62 => absurd c_62 (by decide))
                refine lv_iinc (v := v5 + 1) (lv' := [(5, .int (v5 + 1)), (7, .int ((0 : Int32))), (6, .int r_17), (4, .int v4), (3, .int u3), (2, .int u2), (0, .ref (adr 722)), (1, .int u1)]) hx hb d_Mo_wake_142 hl (k := 2) rfl rfl (by decide) rfl (fun ls hl => ?_)
                refine lv_goto (tgt := 37) hx hb d_Mo_wake_145 (by decide) ?_
                exact ih (v5 + 1) v4 σ_58 H locs ls hf hI (lv_sub hl [0, 3, 4, 5, 6, 7] rfl)
              · replace hf := (if_neg c_61).symm.trans hf
                refine lv_aload_n hx hb d_Mo_wake_92 rfl (lv_at hl 5 rfl) ?_
                refine gx_getR (o' := 732) G hI cl_Mo (by decide) 15 (by decide) (by decide) fl_Mo_53 d_Mo_wake_93 ?_
                refine lv_iload hx hb d_Mo_wake_96 (lv_at hl 1 rfl) ?_
                obtain ⟨hi_63, hf⟩ := gx_gd hf
                refine gx_zld G hI (gx_in hi_63 (by decide)) d_Mo_wake_98 ?_
                refine lv_if_ne (tgt := 106) hx hb d_Mo_wake_99 (by decide) (fun c_64 => ?_) (fun c_64 => ?_)
                · replace hf := (if_neg c_64).symm.trans hf
                  refine lv_iconst (v := 0) hx hb d_Mo_wake_106 (by decide) ?_
                  refine lv_istore (i := 7) (lv' := [(7, .int ((0 : Int32))), (6, .int r_17), (5, .int v5), (4, .int v4), (3, .int u3), (2, .int u2), (0, .ref (adr 722)), (1, .int u1)]) hx hb d_Mo_wake_107 hl (by decide) rfl (fun ls hl => ?_)
                  refine lv_iload hx hb d_Mo_wake_109 (lv_at hl 0 rfl) ?_
                  refine lv_if_eq (tgt := 142) hx hb d_Mo_wake_111 (by decide) (fun _ => ?_) (fun c_65 => absurd c_65 (by decide))
                  refine lv_iinc (v := v5 + 1) (lv' := [(5, .int (v5 + 1)), (7, .int ((0 : Int32))), (6, .int r_17), (4, .int v4), (3, .int u3), (2, .int u2), (0, .ref (adr 722)), (1, .int u1)]) hx hb d_Mo_wake_142 hl (k := 2) rfl rfl (by decide) rfl (fun ls hl => ?_)
                  refine lv_goto (tgt := 37) hx hb d_Mo_wake_145 (by decide) ?_
                  exact ih (v5 + 1) v4 σ_58 H locs ls hf hI (lv_sub hl [0, 3, 4, 5, 6, 7] rfl)
                · replace hf := (if_pos c_64).symm.trans hf
                  refine lv_iconst (v := 1) hx hb d_Mo_wake_102 (by decide) ?_
                  refine lv_goto (tgt := 107) hx hb d_Mo_wake_103 (by decide) ?_
                  refine lv_istore (i := 7) (lv' := [(7, .int ((1 : Int32))), (6, .int r_17), (5, .int v5), (4, .int v4), (3, .int u3), (2, .int u2), (0, .ref (adr 722)), (1, .int u1)]) hx hb d_Mo_wake_107 hl (by decide) rfl (fun ls hl => ?_)
                  refine lv_iload hx hb d_Mo_wake_109 (lv_at hl 0 rfl) ?_
                  refine lv_if_eq (tgt := 142) hx hb d_Mo_wake_111 (by decide) (fun c_66 => absurd c_66 (by decide)) (fun _ => ?_)
                  refine lv_iload hx hb d_Mo_wake_114 (lv_at hl 3 rfl) ?_
                  refine lv_if_lt (tgt := 138) hx hb d_Mo_wake_116 (by decide) (fun c_67 => ?_) (fun c_67 => ?_)
                  · replace hf := (if_pos c_67).symm.trans hf
                    refine lv_iload hx hb d_Mo_wake_138 (lv_at hl 2 rfl) ?_
                    refine lv_istore (i := 4) (lv' := [(4, .int v5), (7, .int ((1 : Int32))), (6, .int r_17), (5, .int v5), (3, .int u3), (2, .int u2), (0, .ref (adr 722)), (1, .int u1)]) hx hb d_Mo_wake_140 hl (by decide) rfl (fun ls hl => ?_)
                    refine lv_iinc (v := v5 + 1) (lv' := [(5, .int (v5 + 1)), (4, .int v5), (7, .int ((1 : Int32))), (6, .int r_17), (3, .int u3), (2, .int u2), (0, .ref (adr 722)), (1, .int u1)]) hx hb d_Mo_wake_142 hl (k := 3) rfl rfl (by decide) rfl (fun ls hl => ?_)
                    refine lv_goto (tgt := 37) hx hb d_Mo_wake_145 (by decide) ?_
                    exact ih (v5 + 1) v5 σ_58 H locs ls hf hI (lv_sub hl [0, 1, 4, 5, 6, 7] rfl)
                  · replace hf := (if_neg c_67).symm.trans hf
                    refine lv_aload_n hx hb d_Mo_wake_119 rfl (lv_at hl 6 rfl) ?_
                    refine lv_iload hx hb d_Mo_wake_120 (lv_at hl 2 rfl) ?_
                    refine lv_bipush (v := 10) hx hb d_Mo_wake_122 (by decide) ?_
                    obtain ⟨r_70, σ_68, hc_69, hf⟩ := gx_bde hf
                    refine gx_go (va_runV (As := [.int v5, .int ((10 : Int32))]) (rest := []) G.1 (ct_Mo_of l D dA adr A hA N v5 ((10 : Int32)) σ_58 r_70 σ_68 hc_69) (cwV 2 ht gi_Mo_65 rfl rfl rfl (by decide +kernel) ⟨Nat.le_of_ble_eq_true rfl, Nat.le_of_ble_eq_true rfl⟩) (gx_preV G hI cl_Mo (by decide)) rfl rfl hl.1 rfl (lv_room (Nat.le_of_ble_eq_true rfl)) d_Mo_wake_124 ⟨Nat.zero_le _, Nat.zero_le _⟩) hI (st1 := [.int r_70]) rfl (fun H locs hI => ?_)
                    refine lv_aload_n hx hb d_Mo_wake_127 rfl (lv_at hl 6 rfl) ?_
                    refine lv_iload hx hb d_Mo_wake_128 (lv_at hl 3 rfl) ?_
                    refine lv_bipush (v := 10) hx hb d_Mo_wake_130 (by decide) ?_
                    obtain ⟨r_73, σ_71, hc_72, hf⟩ := gx_bde hf
                    refine gx_go (va_runV (As := [.int v4, .int ((10 : Int32))]) (rest := [.int r_70]) G.1 (ct_Mo_of l D dA adr A hA N v4 ((10 : Int32)) σ_68 r_73 σ_71 hc_72) (cwV 2 ht gi_Mo_65 rfl rfl rfl (by decide +kernel) ⟨Nat.le_of_ble_eq_true rfl, Nat.le_of_ble_eq_true rfl⟩) (gx_preV G hI cl_Mo (by decide)) rfl rfl hl.1 rfl (lv_room (Nat.le_of_ble_eq_true rfl)) d_Mo_wake_132 ⟨Nat.zero_le _, Nat.zero_le _⟩) hI (st1 := [.int r_73, .int r_70]) rfl (fun H locs hI => ?_)
                    refine lv_icmp_ge (tgt := 142) hx hb d_Mo_wake_135 (by decide) (fun c_74 => ?_) (fun c_74 => ?_)
                    · replace hf := (if_pos c_74).symm.trans hf
                      refine lv_iinc (v := v5 + 1) (lv' := [(5, .int (v5 + 1)), (7, .int ((1 : Int32))), (6, .int r_17), (4, .int v4), (3, .int u3), (2, .int u2), (0, .ref (adr 722)), (1, .int u1)]) hx hb d_Mo_wake_142 hl (k := 2) rfl rfl (by decide) rfl (fun ls hl => ?_)
                      refine lv_goto (tgt := 37) hx hb d_Mo_wake_145 (by decide) ?_
                      exact ih (v5 + 1) v4 σ_71 H locs ls hf hI (lv_sub hl [0, 3, 4, 5, 6, 7] rfl)
                    · replace hf := (if_neg c_74).symm.trans hf
                      refine lv_iload hx hb d_Mo_wake_138 (lv_at hl 2 rfl) ?_
                      refine lv_istore (i := 4) (lv' := [(4, .int v5), (7, .int ((1 : Int32))), (6, .int r_17), (5, .int v5), (3, .int u3), (2, .int u2), (0, .ref (adr 722)), (1, .int u1)]) hx hb d_Mo_wake_140 hl (by decide) rfl (fun ls hl => ?_)
                      refine lv_iinc (v := v5 + 1) (lv' := [(5, .int (v5 + 1)), (4, .int v5), (7, .int ((1 : Int32))), (6, .int r_17), (3, .int u3), (2, .int u2), (0, .ref (adr 722)), (1, .int u1)]) hx hb d_Mo_wake_142 hl (k := 3) rfl rfl (by decide) rfl (fun ls hl => ?_)
                      refine lv_goto (tgt := 37) hx hb d_Mo_wake_145 (by decide) ?_
                      exact ih (v5 + 1) v5 σ_71 H locs ls hf hI (lv_sub hl [0, 1, 4, 5, 6, 7] rfl)
set_option maxHeartbeats 4000000 in
set_option maxRecDepth 100000 in
theorem wl_Mo_wake_L25 {p : Program} {l : Launch} {e : Env} {s : State} {m : MethodId} {args : Array Value} {below : List Frame} {meth : Method} {c : Code} {D : va_G} {dA : Nat → ClassId} {adr : Nat → Nat} {A : Nat → Prop} (G : gx_G p m c b_Mo_wake 8 s args gx_tb R_Mo D dA) (hr : meth.sig.returnType = some .int) (hlocks : meth.locks = false) (hA : gx_A A adr) (N : Nat) (res : Int32 × gx_M) (u1 : Int32) : ∀ (n : Nat) (v3 : Int32) (v2 : Int32) (σ : gx_M) (H : Heap) (locs : List Loc) (ls : Array Slot), fn_Mo_wake_L25 N u1 n v3 v2 σ = some res → gx_I D dA adr A s.heap σ H locs → lv_has ls 8 [(3, .int v3), (2, .int v2), (0, .ref (adr 722)), (1, .int u1)] → W p l e (headSpec w_Mo_wake rm_Mo_wake).room s m args below meth c H locs 0 0 (MQ below (gx_Q D dA adr A (some (.int res.1)) res.2) args s 0 0 A) (F0 m 25 ls []) := by
  obtain ⟨⟨hx, hb, hml, hown, ht⟩, hK⟩ := id G
  intro n
  induction n with
  | zero =>
    intro v3 v2 σ H locs ls hf
    cases hf
  | succ n ih =>
    intro v3 v2 σ H locs ls hf hI hl
    rw [fn_Mo_wake_L25] at hf
    refine lv_iload_n hx hb d_Mo_wake_25 rfl (lv_at hl 0 rfl) ?_
    refine lv_bipush (v := 40) hx hb d_Mo_wake_26 (by decide) ?_
    refine lv_icmp_ge (tgt := 199) hx hb d_Mo_wake_28 (by decide) (fun c_2 => ?_) (fun c_2 => ?_)
    · replace hf := (if_pos c_2).symm.trans hf
      refine lv_iload_n hx hb d_Mo_wake_199 rfl (lv_at hl 1 rfl) ?_
      cases hf
      exact W.iret hx hb hr (gx_F hI) hI.2.2.2 d_Mo_wake_200
    · replace hf := (if_neg c_2).symm.trans hf
      refine lv_iconst (v := (-1)) hx hb d_Mo_wake_31 (by decide) ?_
      refine lv_istore (i := 4) (lv' := [(4, .int ((-1 : Int32))), (3, .int v3), (2, .int v2), (0, .ref (adr 722)), (1, .int u1)]) hx hb d_Mo_wake_32 hl (by decide) rfl (fun ls hl => ?_)
      refine lv_iconst (v := 0) hx hb d_Mo_wake_34 (by decide) ?_
      refine lv_istore (i := 5) (lv' := [(5, .int ((0 : Int32))), (4, .int ((-1 : Int32))), (3, .int v3), (2, .int v2), (0, .ref (adr 722)), (1, .int u1)]) hx hb d_Mo_wake_35 hl (by decide) rfl (fun ls hl => ?_)
      exact wl_Mo_wake_L37 G hr hlocks hA N _ v3 v2 u1 (fn_Mo_wake_L25 N u1 n) ih N ((0 : Int32)) ((-1 : Int32)) σ H locs ls hf hI (lv_sub hl [0, 1, 2, 3, 4, 5] rfl)
set_option maxHeartbeats 4000000 in
set_option maxRecDepth 100000 in
theorem wl_Mo_wake_L4 {p : Program} {l : Launch} {e : Env} {s : State} {m : MethodId} {args : Array Value} {below : List Frame} {meth : Method} {c : Code} {D : va_G} {dA : Nat → ClassId} {adr : Nat → Nat} {A : Nat → Prop} (G : gx_G p m c b_Mo_wake 8 s args gx_tb R_Mo D dA) (hr : meth.sig.returnType = some .int) (hlocks : meth.locks = false) (hA : gx_A A adr) (N : Nat) (res : Int32 × gx_M) (u2 : Int32) (u1 : Int32) : ∀ (n : Nat) (v3 : Int32) (σ : gx_M) (H : Heap) (locs : List Loc) (ls : Array Slot), fn_Mo_wake_L4 N u2 u1 n v3 σ = some res → gx_I D dA adr A s.heap σ H locs → lv_has ls 8 [(3, .int v3), (2, .int u2), (0, .ref (adr 722)), (1, .int u1)] → W p l e (headSpec w_Mo_wake rm_Mo_wake).room s m args below meth c H locs 0 0 (MQ below (gx_Q D dA adr A (some (.int res.1)) res.2) args s 0 0 A) (F0 m 4 ls []) := by
  obtain ⟨⟨hx, hb, hml, hown, ht⟩, hK⟩ := id G
  intro n
  induction n with
  | zero =>
    intro v3 σ H locs ls hf
    cases hf
  | succ n ih =>
    intro v3 σ H locs ls hf hI hl
    rw [fn_Mo_wake_L4] at hf
    refine lv_iload_n hx hb d_Mo_wake_4 rfl (lv_at hl 0 rfl) ?_
    refine lv_bipush (v := 40) hx hb d_Mo_wake_5 (by decide) ?_
    refine lv_icmp_ge (tgt := 23) hx hb d_Mo_wake_7 (by decide) (fun c_1 => ?_) (fun c_1 => ?_)
    · replace hf := (if_pos c_1).symm.trans hf
      refine lv_iconst (v := 0) hx hb d_Mo_wake_23 (by decide) ?_
      refine lv_istore_n (i := 3) (lv' := [(3, .int ((0 : Int32))), (2, .int u2), (0, .ref (adr 722)), (1, .int u1)]) hx hb d_Mo_wake_24 rfl hl (by decide) rfl (fun ls hl => ?_)
      exact wl_Mo_wake_L25 G hr hlocks hA N _ u1 N ((0 : Int32)) u2 σ H locs ls hf hI (lv_sub hl [0, 1, 2, 3] rfl)
    · replace hf := (if_neg c_1).symm.trans hf
      refine lv_aload_n hx hb d_Mo_wake_10 rfl (lv_at hl 2 rfl) ?_
      refine gx_getR (o' := 732) G hI cl_Mo (by decide) 15 (by decide) (by decide) fl_Mo_53 d_Mo_wake_11 ?_
      refine lv_iload_n hx hb d_Mo_wake_14 rfl (lv_at hl 0 rfl) ?_
      refine lv_iconst (v := 0) hx hb d_Mo_wake_15 (by decide) ?_
      obtain ⟨hi_75, hf⟩ := gx_gd hf
      obtain ⟨σ_76, eσ_76, hf⟩ := gx_lte hf
      refine gx_zst G hI hA (by decide) (gx_in hi_75 (by decide)) eσ_76 d_Mo_wake_16 (fun H locs hI => ?_)
      refine lv_iinc (v := v3 + 1) (lv' := [(3, .int (v3 + 1)), (2, .int u2), (0, .ref (adr 722)), (1, .int u1)]) hx hb d_Mo_wake_17 hl (k := 0) rfl rfl (by decide) rfl (fun ls hl => ?_)
      refine lv_goto (tgt := 4) hx hb d_Mo_wake_20 (by decide) ?_
      exact ih (v3 + 1) σ_76 H locs ls hf hI (lv_sub hl [0, 1, 2, 3] rfl)
set_option maxHeartbeats 4000000 in
set_option maxRecDepth 100000 in
theorem ct_Mo_wake (l : Launch) (D : va_G) (dA : Nat → ClassId) (adr : Nat → Nat) (A : Nat → Prop) (hA : gx_A A adr) (N : Nat) (p0 : Int32) (σ : gx_M) (r : Int32) (σ' : gx_M) (hf : fn_Mo_wake N p0 σ = some (r, σ')) : Met l y_Mo_wake w_Mo_wake rm_Mo_wake (gx_Pc D dA adr σ [.ref (adr 722), .int p0]) (gx_Q D dA adr A (some (.int r)) σ') 0 0 A := by
  refine Met.ofW (cc := b_Mo_wake) (maxL := 8) (ret := some .int) (by decide) rfl ?_
  intro p e s m args below meth c s₁ B hml hv
  obtain ⟨rfl, hP, hK⟩ := hv
  have hx := B.exec
  have hb := B.bytes
  have hr := B.returns
  have hlocks := B.notSynchronized
  have ht : ∀ w ∈ gx_tb, w.before _ s = true := fun w h => atoms_spec (ws := w_Mo_wake) B.pre w (List.mem_cons_of_mem _ h)
  have hown : s.vm.findClass R_Mo = some m.cls := findClass_of_methodNamed B.named
  have G : gx_G p m c b_Mo_wake 8 s _ gx_tb R_Mo D dA := ⟨⟨hx, hb, hml, hown, ht⟩, hK⟩
  have hI : gx_I D dA adr A s.heap σ s.heap [] := ⟨hP, va_S.rf⟩
  have hl := lv_entry ([.ref (adr 722), .int p0]) (n := 8) (Nat.le_of_ble_eq_true rfl)
  rw [lg_entry_eq]
  generalize (lg_sl ([.ref (adr 722), .int p0]) ++ List.replicate (8 - (lg_sl ([.ref (adr 722), .int p0])).length) Slot.unset).toArray = ls at hl ⊢
  have hl : lv_has ls 8 [(0, .ref (adr 722)), (1, .int p0)] := hl
  rw [fn_Mo_wake] at hf
  refine lv_iconst (v := 0) hx hb d_Mo_wake_0 (by decide) ?_
  refine lv_istore_n (i := 2) (lv' := [(2, .int ((0 : Int32))), (0, .ref (adr 722)), (1, .int p0)]) hx hb d_Mo_wake_1 rfl hl (by decide) rfl (fun ls hl => ?_)
  refine lv_iconst (v := 0) hx hb d_Mo_wake_2 (by decide) ?_
  refine lv_istore_n (i := 3) (lv' := [(3, .int ((0 : Int32))), (2, .int ((0 : Int32))), (0, .ref (adr 722)), (1, .int p0)]) hx hb d_Mo_wake_3 rfl hl (by decide) rfl (fun ls hl => ?_)
  exact wl_Mo_wake_L4 G hr hlocks hA N _ ((0 : Int32)) p0 N ((0 : Int32)) σ _ _ ls hf hI (lv_sub hl [0, 1, 2, 3] rfl)
