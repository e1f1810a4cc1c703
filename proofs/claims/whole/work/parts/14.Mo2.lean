theorem d_Mo_queue_0 : decode b_Mo_queue 0 = .ok (.aload_n 0, 1) := by decide +kernel
theorem d_Mo_queue_1 : decode b_Mo_queue 1 = .ok (.iload_n 1, 1) := by decide +kernel
theorem d_Mo_queue_2 : decode b_Mo_queue 2 = .ok (.iconst 0, 1) := by decide +kernel
theorem d_Mo_queue_3 : decode b_Mo_queue 3 = .ok (.iconst 3, 1) := by decide +kernel
theorem d_Mo_queue_4 : decode b_Mo_queue 4 = .ok (.invokevirtual 80, 3) := by decide +kernel
theorem d_Mo_queue_7 : decode b_Mo_queue 7 = .ok (.ifCond .ne 37, 3) := by decide +kernel
theorem d_Mo_queue_10 : decode b_Mo_queue 10 = .ok (.aload_n 0, 1) := by decide +kernel
theorem d_Mo_queue_11 : decode b_Mo_queue 11 = .ok (.iload_n 2, 1) := by decide +kernel
theorem d_Mo_queue_12 : decode b_Mo_queue 12 = .ok (.iconst 0, 1) := by decide +kernel
theorem d_Mo_queue_13 : decode b_Mo_queue 13 = .ok (.bipush 8, 2) := by decide +kernel
theorem d_Mo_queue_15 : decode b_Mo_queue 15 = .ok (.invokevirtual 80, 3) := by decide +kernel
theorem d_Mo_queue_18 : decode b_Mo_queue 18 = .ok (.ifCond .ne 26, 3) := by decide +kernel
theorem d_Mo_queue_21 : decode b_Mo_queue 21 = .ok (.aload_n 0, 1) := by decide +kernel
theorem d_Mo_queue_22 : decode b_Mo_queue 22 = .ok (.iload_n 3, 1) := by decide +kernel
theorem d_Mo_queue_23 : decode b_Mo_queue 23 = .ok (.iconst 0, 1) := by decide +kernel
theorem d_Mo_queue_24 : decode b_Mo_queue 24 = .ok (.bipush 20, 2) := by decide +kernel
theorem d_Mo_queue_26 : decode b_Mo_queue 26 = .ok (.invokevirtual 80, 3) := by decide +kernel
theorem d_Mo_queue_29 : decode b_Mo_queue 29 = .ok (.ifCond .ne 15, 3) := by decide +kernel
theorem d_Mo_queue_32 : decode b_Mo_queue 32 = .ok (.aload_n 0, 1) := by decide +kernel
theorem d_Mo_queue_33 : decode b_Mo_queue 33 = .ok (.iload 4, 2) := by decide +kernel
theorem d_Mo_queue_35 : decode b_Mo_queue 35 = .ok (.iconst 1, 1) := by decide +kernel
theorem d_Mo_queue_36 : decode b_Mo_queue 36 = .ok (.bipush 50, 2) := by decide +kernel
theorem d_Mo_queue_38 : decode b_Mo_queue 38 = .ok (.invokevirtual 80, 3) := by decide +kernel
theorem d_Mo_queue_41 : decode b_Mo_queue 41 = .ok (.ifCond .eq 5, 3) := by decide +kernel
theorem d_Mo_queue_44 : decode b_Mo_queue 44 = .ok (.iconst (-1), 1) := by decide +kernel
theorem d_Mo_queue_45 : decode b_Mo_queue 45 = .ok (.ireturn, 1) := by decide +kernel
theorem d_Mo_queue_46 : decode b_Mo_queue 46 = .ok (.aload_n 0, 1) := by decide +kernel
theorem d_Mo_queue_47 : decode b_Mo_queue 47 = .ok (.getfield 13, 3) := by decide +kernel
theorem d_Mo_queue_50 : decode b_Mo_queue 50 = .ok (.iload_n 1, 1) := by decide +kernel
theorem d_Mo_queue_51 : decode b_Mo_queue 51 = .ok (.iload_n 2, 1) := by decide +kernel
theorem d_Mo_queue_52 : decode b_Mo_queue 52 = .ok (.iastore, 1) := by decide +kernel
theorem d_Mo_queue_53 : decode b_Mo_queue 53 = .ok (.aload_n 0, 1) := by decide +kernel
theorem d_Mo_queue_54 : decode b_Mo_queue 54 = .ok (.getfield 20, 3) := by decide +kernel
theorem d_Mo_queue_57 : decode b_Mo_queue 57 = .ok (.iload_n 1, 1) := by decide +kernel
theorem d_Mo_queue_58 : decode b_Mo_queue 58 = .ok (.iload_n 3, 1) := by decide +kernel
theorem d_Mo_queue_59 : decode b_Mo_queue 59 = .ok (.iastore, 1) := by decide +kernel
theorem d_Mo_queue_60 : decode b_Mo_queue 60 = .ok (.aload_n 0, 1) := by decide +kernel
theorem d_Mo_queue_61 : decode b_Mo_queue 61 = .ok (.getfield 26, 3) := by decide +kernel
theorem d_Mo_queue_64 : decode b_Mo_queue 64 = .ok (.iload_n 1, 1) := by decide +kernel
theorem d_Mo_queue_65 : decode b_Mo_queue 65 = .ok (.iload 4, 2) := by decide +kernel
theorem d_Mo_queue_67 : decode b_Mo_queue 67 = .ok (.iastore, 1) := by decide +kernel
theorem d_Mo_queue_68 : decode b_Mo_queue 68 = .ok (.aload_n 0, 1) := by decide +kernel
theorem d_Mo_queue_69 : decode b_Mo_queue 69 = .ok (.getfield 17, 3) := by decide +kernel
theorem d_Mo_queue_72 : decode b_Mo_queue 72 = .ok (.iload_n 1, 1) := by decide +kernel
theorem d_Mo_queue_73 : decode b_Mo_queue 73 = .ok (.iconst 0, 1) := by decide +kernel
theorem d_Mo_queue_74 : decode b_Mo_queue 74 = .ok (.iastore, 1) := by decide +kernel
theorem d_Mo_queue_75 : decode b_Mo_queue 75 = .ok (.aload_n 0, 1) := by decide +kernel
theorem d_Mo_queue_76 : decode b_Mo_queue 76 = .ok (.getfield 23, 3) := by decide +kernel
theorem d_Mo_queue_79 : decode b_Mo_queue 79 = .ok (.iload_n 1, 1) := by decide +kernel
theorem d_Mo_queue_80 : decode b_Mo_queue 80 = .ok (.iload_n 3, 1) := by decide +kernel
theorem d_Mo_queue_81 : decode b_Mo_queue 81 = .ok (.iastore, 1) := by decide +kernel
theorem d_Mo_queue_82 : decode b_Mo_queue 82 = .ok (.aload_n 0, 1) := by decide +kernel
theorem d_Mo_queue_83 : decode b_Mo_queue 83 = .ok (.getfield 29, 3) := by decide +kernel
theorem d_Mo_queue_86 : decode b_Mo_queue 86 = .ok (.iload_n 1, 1) := by decide +kernel
theorem d_Mo_queue_87 : decode b_Mo_queue 87 = .ok (.aload_n 0, 1) := by decide +kernel
theorem d_Mo_queue_88 : decode b_Mo_queue 88 = .ok (.getfield 7, 3) := by decide +kernel
theorem d_Mo_queue_91 : decode b_Mo_queue 91 = .ok (.iastore, 1) := by decide +kernel
theorem d_Mo_queue_92 : decode b_Mo_queue 92 = .ok (.iconst 0, 1) := by decide +kernel
theorem d_Mo_queue_93 : decode b_Mo_queue 93 = .ok (.ireturn, 1) := by decide +kernel
theorem d_Mo_key_0 : decode b_Mo_key 0 = .ok (.aload_n 0, 1) := by decide +kernel
theorem d_Mo_key_1 : decode b_Mo_key 1 = .ok (.iload_n 1, 1) := by decide +kernel
theorem d_Mo_key_2 : decode b_Mo_key 2 = .ok (.iconst (-1), 1) := by decide +kernel
theorem d_Mo_key_3 : decode b_Mo_key 3 = .ok (.bipush 31, 2) := by decide +kernel
theorem d_Mo_key_5 : decode b_Mo_key 5 = .ok (.invokevirtual 80, 3) := by decide +kernel
theorem d_Mo_key_8 : decode b_Mo_key 8 = .ok (.ifCond .eq 5, 3) := by decide +kernel
theorem d_Mo_key_11 : decode b_Mo_key 11 = .ok (.iconst (-1), 1) := by decide +kernel
theorem d_Mo_key_12 : decode b_Mo_key 12 = .ok (.ireturn, 1) := by decide +kernel
theorem d_Mo_key_13 : decode b_Mo_key 13 = .ok (.aload_n 0, 1) := by decide +kernel
theorem d_Mo_key_14 : decode b_Mo_key 14 = .ok (.iload_n 1, 1) := by decide +kernel
theorem d_Mo_key_15 : decode b_Mo_key 15 = .ok (.putfield 32, 3) := by decide +kernel
theorem d_Mo_key_18 : decode b_Mo_key 18 = .ok (.iconst 0, 1) := by decide +kernel
theorem d_Mo_key_19 : decode b_Mo_key 19 = .ok (.ireturn, 1) := by decide +kernel
theorem d_Mo_submit_0 : decode b_Mo_submit 0 = .ok (.aload_n 0, 1) := by decide +kernel
theorem d_Mo_submit_1 : decode b_Mo_submit 1 = .ok (.iload_n 1, 1) := by decide +kernel
theorem d_Mo_submit_2 : decode b_Mo_submit 2 = .ok (.iconst 0, 1) := by decide +kernel
theorem d_Mo_submit_3 : decode b_Mo_submit 3 = .ok (.iconst 3, 1) := by decide +kernel
theorem d_Mo_submit_4 : decode b_Mo_submit 4 = .ok (.invokevirtual 80, 3) := by decide +kernel
theorem d_Mo_submit_7 : decode b_Mo_submit 7 = .ok (.ifCond .ne 49, 3) := by decide +kernel
theorem d_Mo_submit_10 : decode b_Mo_submit 10 = .ok (.aload_n 0, 1) := by decide +kernel
theorem d_Mo_submit_11 : decode b_Mo_submit 11 = .ok (.iload_n 2, 1) := by decide +kernel
theorem d_Mo_submit_12 : decode b_Mo_submit 12 = .ok (.iconst 0, 1) := by decide +kernel
theorem d_Mo_submit_13 : decode b_Mo_submit 13 = .ok (.bipush 9, 2) := by decide +kernel
theorem d_Mo_submit_15 : decode b_Mo_submit 15 = .ok (.invokevirtual 80, 3) := by decide +kernel
theorem d_Mo_submit_18 : decode b_Mo_submit 18 = .ok (.ifCond .ne 38, 3) := by decide +kernel
theorem d_Mo_submit_21 : decode b_Mo_submit 21 = .ok (.aload_n 0, 1) := by decide +kernel
theorem d_Mo_submit_22 : decode b_Mo_submit 22 = .ok (.iload_n 3, 1) := by decide +kernel
theorem d_Mo_submit_23 : decode b_Mo_submit 23 = .ok (.iconst 0, 1) := by decide +kernel
theorem d_Mo_submit_24 : decode b_Mo_submit 24 = .ok (.sipush 1000, 3) := by decide +kernel
theorem d_Mo_submit_27 : decode b_Mo_submit 27 = .ok (.invokevirtual 80, 3) := by decide +kernel
theorem d_Mo_submit_30 : decode b_Mo_submit 30 = .ok (.ifCond .ne 26, 3) := by decide +kernel
theorem d_Mo_submit_33 : decode b_Mo_submit 33 = .ok (.aload_n 0, 1) := by decide +kernel
theorem d_Mo_submit_34 : decode b_Mo_submit 34 = .ok (.iload 4, 2) := by decide +kernel
theorem d_Mo_submit_36 : decode b_Mo_submit 36 = .ok (.iconst 0, 1) := by decide +kernel
theorem d_Mo_submit_37 : decode b_Mo_submit 37 = .ok (.iconst 5, 1) := by decide +kernel
theorem d_Mo_submit_38 : decode b_Mo_submit 38 = .ok (.invokevirtual 80, 3) := by decide +kernel
theorem d_Mo_submit_41 : decode b_Mo_submit 41 = .ok (.ifCond .ne 15, 3) := by decide +kernel
theorem d_Mo_submit_44 : decode b_Mo_submit 44 = .ok (.aload_n 0, 1) := by decide +kernel
theorem d_Mo_submit_45 : decode b_Mo_submit 45 = .ok (.iload 5, 2) := by decide +kernel
theorem d_Mo_submit_47 : decode b_Mo_submit 47 = .ok (.iconst 1, 1) := by decide +kernel
theorem d_Mo_submit_48 : decode b_Mo_submit 48 = .ok (.bipush 50, 2) := by decide +kernel
theorem d_Mo_submit_50 : decode b_Mo_submit 50 = .ok (.invokevirtual 80, 3) := by decide +kernel
theorem d_Mo_submit_53 : decode b_Mo_submit 53 = .ok (.ifCond .eq 5, 3) := by decide +kernel
theorem d_Mo_submit_56 : decode b_Mo_submit 56 = .ok (.iconst (-1), 1) := by decide +kernel
theorem d_Mo_submit_57 : decode b_Mo_submit 57 = .ok (.ireturn, 1) := by decide +kernel
theorem d_Mo_submit_58 : decode b_Mo_submit 58 = .ok (.aload_n 0, 1) := by decide +kernel
theorem d_Mo_submit_59 : decode b_Mo_submit 59 = .ok (.aload_n 0, 1) := by decide +kernel
theorem d_Mo_submit_60 : decode b_Mo_submit 60 = .ok (.getfield 32, 3) := by decide +kernel
theorem d_Mo_submit_63 : decode b_Mo_submit 63 = .ok (.invokevirtual 84, 3) := by decide +kernel
theorem d_Mo_submit_66 : decode b_Mo_submit 66 = .ok (.ifCond .eq 6, 3) := by decide +kernel
theorem d_Mo_submit_69 : decode b_Mo_submit 69 = .ok (.bipush (-3), 2) := by decide +kernel
theorem d_Mo_submit_71 : decode b_Mo_submit 71 = .ok (.ireturn, 1) := by decide +kernel
theorem d_Mo_submit_72 : decode b_Mo_submit 72 = .ok (.aload_n 0, 1) := by decide +kernel
theorem d_Mo_submit_73 : decode b_Mo_submit 73 = .ok (.getfield 35, 3) := by decide +kernel
theorem d_Mo_submit_76 : decode b_Mo_submit 76 = .ok (.bipush 40, 2) := by decide +kernel
theorem d_Mo_submit_78 : decode b_Mo_submit 78 = .ok (.if_icmp .ne 6, 3) := by decide +kernel
theorem d_Mo_submit_81 : decode b_Mo_submit 81 = .ok (.bipush (-2), 2) := by decide +kernel
theorem d_Mo_submit_83 : decode b_Mo_submit 83 = .ok (.ireturn, 1) := by decide +kernel
theorem d_Mo_submit_84 : decode b_Mo_submit 84 = .ok (.aload_n 0, 1) := by decide +kernel
theorem d_Mo_submit_85 : decode b_Mo_submit 85 = .ok (.iload_n 1, 1) := by decide +kernel
theorem d_Mo_submit_86 : decode b_Mo_submit 86 = .ok (.iload_n 2, 1) := by decide +kernel
theorem d_Mo_submit_87 : decode b_Mo_submit 87 = .ok (.iload 4, 2) := by decide +kernel
theorem d_Mo_submit_89 : decode b_Mo_submit 89 = .ok (.iload 5, 2) := by decide +kernel
theorem d_Mo_submit_91 : decode b_Mo_submit 91 = .ok (.aload_n 0, 1) := by decide +kernel
theorem d_Mo_submit_92 : decode b_Mo_submit 92 = .ok (.getfield 32, 3) := by decide +kernel
theorem d_Mo_submit_95 : decode b_Mo_submit 95 = .ok (.invokevirtual 87, 3) := by decide +kernel
theorem d_Mo_submit_98 : decode b_Mo_submit 98 = .ok (.istore 6, 2) := by decide +kernel
theorem d_Mo_submit_100 : decode b_Mo_submit 100 = .ok (.aload_n 0, 1) := by decide +kernel
theorem d_Mo_submit_101 : decode b_Mo_submit 101 = .ok (.iconst (-1), 1) := by decide +kernel
theorem d_Mo_submit_102 : decode b_Mo_submit 102 = .ok (.putfield 32, 3) := by decide +kernel
theorem d_Mo_submit_105 : decode b_Mo_submit 105 = .ok (.iload_n 3, 1) := by decide +kernel
theorem d_Mo_submit_106 : decode b_Mo_submit 106 = .ok (.ifCond .ne 9, 3) := by decide +kernel
theorem d_Mo_submit_109 : decode b_Mo_submit 109 = .ok (.aload_n 0, 1) := by decide +kernel
theorem d_Mo_submit_110 : decode b_Mo_submit 110 = .ok (.iload 6, 2) := by decide +kernel
theorem d_Mo_submit_112 : decode b_Mo_submit 112 = .ok (.invokevirtual 91, 3) := by decide +kernel
theorem d_Mo_submit_115 : decode b_Mo_submit 115 = .ok (.aload_n 0, 1) := by decide +kernel
theorem d_Mo_submit_116 : decode b_Mo_submit 116 = .ok (.iload 6, 2) := by decide +kernel
theorem d_Mo_submit_118 : decode b_Mo_submit 118 = .ok (.bipush 10, 2) := by decide +kernel
theorem d_Mo_submit_120 : decode b_Mo_submit 120 = .ok (.aload_n 0, 1) := by decide +kernel
theorem d_Mo_submit_121 : decode b_Mo_submit 121 = .ok (.getfield 7, 3) := by decide +kernel
theorem d_Mo_submit_124 : decode b_Mo_submit 124 = .ok (.iload_n 3, 1) := by decide +kernel
theorem d_Mo_submit_125 : decode b_Mo_submit 125 = .ok (.iadd, 1) := by decide +kernel
theorem d_Mo_submit_126 : decode b_Mo_submit 126 = .ok (.invokevirtual 69, 3) := by decide +kernel
theorem d_Mo_submit_129 : decode b_Mo_submit 129 = .ok (.aload_n 0, 1) := by decide +kernel
theorem d_Mo_submit_130 : decode b_Mo_submit 130 = .ok (.invokevirtual 94, 3) := by decide +kernel
theorem d_Mo_submit_133 : decode b_Mo_submit 133 = .ok (.iload 6, 2) := by decide +kernel
theorem d_Mo_submit_135 : decode b_Mo_submit 135 = .ok (.ireturn, 1) := by decide +kernel
theorem d_Mo_hold_0 : decode b_Mo_hold 0 = .ok (.aload_n 0, 1) := by decide +kernel
theorem d_Mo_hold_1 : decode b_Mo_hold 1 = .ok (.iload_n 1, 1) := by decide +kernel
theorem d_Mo_hold_2 : decode b_Mo_hold 2 = .ok (.iconst 0, 1) := by decide +kernel
theorem d_Mo_hold_3 : decode b_Mo_hold 3 = .ok (.iconst 3, 1) := by decide +kernel
theorem d_Mo_hold_4 : decode b_Mo_hold 4 = .ok (.invokevirtual 80, 3) := by decide +kernel
theorem d_Mo_hold_7 : decode b_Mo_hold 7 = .ok (.ifCond .ne 14, 3) := by decide +kernel
theorem d_Mo_hold_10 : decode b_Mo_hold 10 = .ok (.aload_n 0, 1) := by decide +kernel
theorem d_Mo_hold_11 : decode b_Mo_hold 11 = .ok (.iload_n 2, 1) := by decide +kernel
theorem d_Mo_hold_12 : decode b_Mo_hold 12 = .ok (.iconst 0, 1) := by decide +kernel
theorem d_Mo_hold_13 : decode b_Mo_hold 13 = .ok (.bipush 9, 2) := by decide +kernel
theorem d_Mo_hold_15 : decode b_Mo_hold 15 = .ok (.invokevirtual 80, 3) := by decide +kernel
theorem d_Mo_hold_18 : decode b_Mo_hold 18 = .ok (.ifCond .eq 5, 3) := by decide +kernel
theorem d_Mo_hold_21 : decode b_Mo_hold 21 = .ok (.iconst (-1), 1) := by decide +kernel
theorem d_Mo_hold_22 : decode b_Mo_hold 22 = .ok (.ireturn, 1) := by decide +kernel
theorem d_Mo_hold_23 : decode b_Mo_hold 23 = .ok (.aload_n 0, 1) := by decide +kernel
theorem d_Mo_hold_24 : decode b_Mo_hold 24 = .ok (.getfield 35, 3) := by decide +kernel
theorem d_Mo_hold_27 : decode b_Mo_hold 27 = .ok (.bipush 40, 2) := by decide +kernel
theorem d_Mo_hold_29 : decode b_Mo_hold 29 = .ok (.if_icmp .ne 6, 3) := by decide +kernel
theorem d_Mo_hold_32 : decode b_Mo_hold 32 = .ok (.bipush (-2), 2) := by decide +kernel
theorem d_Mo_hold_34 : decode b_Mo_hold 34 = .ok (.ireturn, 1) := by decide +kernel
theorem d_Mo_hold_35 : decode b_Mo_hold 35 = .ok (.aload_n 0, 1) := by decide +kernel
theorem d_Mo_hold_36 : decode b_Mo_hold 36 = .ok (.iload_n 1, 1) := by decide +kernel
theorem d_Mo_hold_37 : decode b_Mo_hold 37 = .ok (.iload_n 2, 1) := by decide +kernel
theorem d_Mo_hold_38 : decode b_Mo_hold 38 = .ok (.iconst 0, 1) := by decide +kernel
theorem d_Mo_hold_39 : decode b_Mo_hold 39 = .ok (.iconst 1, 1) := by decide +kernel
theorem d_Mo_hold_40 : decode b_Mo_hold 40 = .ok (.iconst (-1), 1) := by decide +kernel
theorem d_Mo_hold_41 : decode b_Mo_hold 41 = .ok (.invokevirtual 87, 3) := by decide +kernel
theorem d_Mo_hold_44 : decode b_Mo_hold 44 = .ok (.istore_n 3, 1) := by decide +kernel
theorem d_Mo_hold_45 : decode b_Mo_hold 45 = .ok (.aload_n 0, 1) := by decide +kernel
theorem d_Mo_hold_46 : decode b_Mo_hold 46 = .ok (.iload_n 3, 1) := by decide +kernel
theorem d_Mo_hold_47 : decode b_Mo_hold 47 = .ok (.bipush 9, 2) := by decide +kernel
theorem d_Mo_hold_49 : decode b_Mo_hold 49 = .ok (.bipush 6, 2) := by decide +kernel
theorem d_Mo_hold_51 : decode b_Mo_hold 51 = .ok (.invokevirtual 69, 3) := by decide +kernel
theorem d_Mo_hold_54 : decode b_Mo_hold 54 = .ok (.aload_n 0, 1) := by decide +kernel
theorem d_Mo_hold_55 : decode b_Mo_hold 55 = .ok (.invokevirtual 94, 3) := by decide +kernel
theorem d_Mo_hold_58 : decode b_Mo_hold 58 = .ok (.iload_n 3, 1) := by decide +kernel
theorem d_Mo_hold_59 : decode b_Mo_hold 59 = .ok (.ireturn, 1) := by decide +kernel
theorem d_Mo_join_0 : decode b_Mo_join 0 = .ok (.aload_n 0, 1) := by decide +kernel
theorem d_Mo_join_1 : decode b_Mo_join 1 = .ok (.iload_n 1, 1) := by decide +kernel
theorem d_Mo_join_2 : decode b_Mo_join 2 = .ok (.invokevirtual 97, 3) := by decide +kernel
theorem d_Mo_join_5 : decode b_Mo_join 5 = .ok (.ifCond .ne 46, 3) := by decide +kernel
theorem d_Mo_join_8 : decode b_Mo_join 8 = .ok (.aload_n 0, 1) := by decide +kernel
theorem d_Mo_join_9 : decode b_Mo_join 9 = .ok (.iload_n 2, 1) := by decide +kernel
theorem d_Mo_join_10 : decode b_Mo_join 10 = .ok (.invokevirtual 97, 3) := by decide +kernel
theorem d_Mo_join_13 : decode b_Mo_join 13 = .ok (.ifCond .ne 38, 3) := by decide +kernel
theorem d_Mo_join_16 : decode b_Mo_join 16 = .ok (.aload_n 0, 1) := by decide +kernel
theorem d_Mo_join_17 : decode b_Mo_join 17 = .ok (.iload_n 1, 1) := by decide +kernel
theorem d_Mo_join_18 : decode b_Mo_join 18 = .ok (.invokevirtual 76, 3) := by decide +kernel
theorem d_Mo_join_21 : decode b_Mo_join 21 = .ok (.ifCond .eq 30, 3) := by decide +kernel
theorem d_Mo_join_24 : decode b_Mo_join 24 = .ok (.aload_n 0, 1) := by decide +kernel
theorem d_Mo_join_25 : decode b_Mo_join 25 = .ok (.iload_n 1, 1) := by decide +kernel
theorem d_Mo_join_26 : decode b_Mo_join 26 = .ok (.bipush 6, 2) := by decide +kernel
theorem d_Mo_join_28 : decode b_Mo_join 28 = .ok (.invokevirtual 65, 3) := by decide +kernel
theorem d_Mo_join_31 : decode b_Mo_join 31 = .ok (.ifCond .ge 20, 3) := by decide +kernel
theorem d_Mo_join_34 : decode b_Mo_join 34 = .ok (.aload_n 0, 1) := by decide +kernel
theorem d_Mo_join_35 : decode b_Mo_join 35 = .ok (.iload_n 2, 1) := by decide +kernel
theorem d_Mo_join_36 : decode b_Mo_join 36 = .ok (.bipush 9, 2) := by decide +kernel
theorem d_Mo_join_38 : decode b_Mo_join 38 = .ok (.invokevirtual 65, 3) := by decide +kernel
theorem d_Mo_join_41 : decode b_Mo_join 41 = .ok (.bipush 6, 2) := by decide +kernel
theorem d_Mo_join_43 : decode b_Mo_join 43 = .ok (.if_icmp .ne 8, 3) := by decide +kernel
theorem d_Mo_join_46 : decode b_Mo_join 46 = .ok (.iload_n 1, 1) := by decide +kernel
theorem d_Mo_join_47 : decode b_Mo_join 47 = .ok (.iload_n 2, 1) := by decide +kernel
theorem d_Mo_join_48 : decode b_Mo_join 48 = .ok (.if_icmp .ne 5, 3) := by decide +kernel
theorem d_Mo_join_51 : decode b_Mo_join 51 = .ok (.iconst (-1), 1) := by decide +kernel
theorem d_Mo_join_52 : decode b_Mo_join 52 = .ok (.ireturn, 1) := by decide +kernel
theorem d_Mo_join_53 : decode b_Mo_join 53 = .ok (.aload_n 0, 1) := by decide +kernel
theorem d_Mo_join_54 : decode b_Mo_join 54 = .ok (.iload_n 1, 1) := by decide +kernel
theorem d_Mo_join_55 : decode b_Mo_join 55 = .ok (.bipush 6, 2) := by decide +kernel
theorem d_Mo_join_57 : decode b_Mo_join 57 = .ok (.iload_n 2, 1) := by decide +kernel
theorem d_Mo_join_58 : decode b_Mo_join 58 = .ok (.invokevirtual 69, 3) := by decide +kernel
theorem d_Mo_join_61 : decode b_Mo_join 61 = .ok (.aload_n 0, 1) := by decide +kernel
theorem d_Mo_join_62 : decode b_Mo_join 62 = .ok (.iload_n 2, 1) := by decide +kernel
theorem d_Mo_join_63 : decode b_Mo_join 63 = .ok (.bipush 7, 2) := by decide +kernel
theorem d_Mo_join_65 : decode b_Mo_join 65 = .ok (.aload_n 0, 1) := by decide +kernel
theorem d_Mo_join_66 : decode b_Mo_join 66 = .ok (.iload_n 2, 1) := by decide +kernel
theorem d_Mo_join_67 : decode b_Mo_join 67 = .ok (.bipush 7, 2) := by decide +kernel
theorem d_Mo_join_69 : decode b_Mo_join 69 = .ok (.invokevirtual 65, 3) := by decide +kernel
theorem d_Mo_join_72 : decode b_Mo_join 72 = .ok (.iconst 1, 1) := by decide +kernel
theorem d_Mo_join_73 : decode b_Mo_join 73 = .ok (.iadd, 1) := by decide +kernel
theorem d_Mo_join_74 : decode b_Mo_join 74 = .ok (.invokevirtual 69, 3) := by decide +kernel
theorem d_Mo_join_77 : decode b_Mo_join 77 = .ok (.aload_n 0, 1) := by decide +kernel
theorem d_Mo_join_78 : decode b_Mo_join 78 = .ok (.invokevirtual 94, 3) := by decide +kernel
theorem d_Mo_join_81 : decode b_Mo_join 81 = .ok (.iconst 0, 1) := by decide +kernel
theorem d_Mo_join_82 : decode b_Mo_join 82 = .ok (.ireturn, 1) := by decide +kernel
theorem d_Mo_seal_0 : decode b_Mo_seal 0 = .ok (.aload_n 0, 1) := by decide +kernel
theorem d_Mo_seal_1 : decode b_Mo_seal 1 = .ok (.iload_n 1, 1) := by decide +kernel
theorem d_Mo_seal_2 : decode b_Mo_seal 2 = .ok (.invokevirtual 97, 3) := by decide +kernel
theorem d_Mo_seal_5 : decode b_Mo_seal 5 = .ok (.ifCond .ne 26, 3) := by decide +kernel
theorem d_Mo_seal_8 : decode b_Mo_seal 8 = .ok (.aload_n 0, 1) := by decide +kernel
theorem d_Mo_seal_9 : decode b_Mo_seal 9 = .ok (.iload_n 1, 1) := by decide +kernel
theorem d_Mo_seal_10 : decode b_Mo_seal 10 = .ok (.bipush 9, 2) := by decide +kernel
theorem d_Mo_seal_12 : decode b_Mo_seal 12 = .ok (.invokevirtual 65, 3) := by decide +kernel
theorem d_Mo_seal_15 : decode b_Mo_seal 15 = .ok (.bipush 6, 2) := by decide +kernel
theorem d_Mo_seal_17 : decode b_Mo_seal 17 = .ok (.if_icmp .ne 14, 3) := by decide +kernel
theorem d_Mo_seal_20 : decode b_Mo_seal 20 = .ok (.aload_n 0, 1) := by decide +kernel
theorem d_Mo_seal_21 : decode b_Mo_seal 21 = .ok (.iload_n 1, 1) := by decide +kernel
theorem d_Mo_seal_22 : decode b_Mo_seal 22 = .ok (.bipush 8, 2) := by decide +kernel
theorem d_Mo_seal_24 : decode b_Mo_seal 24 = .ok (.invokevirtual 65, 3) := by decide +kernel
theorem d_Mo_seal_27 : decode b_Mo_seal 27 = .ok (.iconst 1, 1) := by decide +kernel
theorem d_Mo_seal_28 : decode b_Mo_seal 28 = .ok (.if_icmp .ne 5, 3) := by decide +kernel
theorem d_Mo_seal_31 : decode b_Mo_seal 31 = .ok (.iconst (-1), 1) := by decide +kernel
theorem d_Mo_seal_32 : decode b_Mo_seal 32 = .ok (.ireturn, 1) := by decide +kernel
theorem d_Mo_seal_33 : decode b_Mo_seal 33 = .ok (.aload_n 0, 1) := by decide +kernel
theorem d_Mo_seal_34 : decode b_Mo_seal 34 = .ok (.iload_n 1, 1) := by decide +kernel
theorem d_Mo_seal_35 : decode b_Mo_seal 35 = .ok (.bipush 8, 2) := by decide +kernel
theorem d_Mo_seal_37 : decode b_Mo_seal 37 = .ok (.iconst 1, 1) := by decide +kernel
theorem d_Mo_seal_38 : decode b_Mo_seal 38 = .ok (.invokevirtual 69, 3) := by decide +kernel
theorem d_Mo_seal_41 : decode b_Mo_seal 41 = .ok (.aload_n 0, 1) := by decide +kernel
theorem d_Mo_seal_42 : decode b_Mo_seal 42 = .ok (.iload_n 1, 1) := by decide +kernel
theorem d_Mo_seal_43 : decode b_Mo_seal 43 = .ok (.bipush 7, 2) := by decide +kernel
theorem d_Mo_seal_45 : decode b_Mo_seal 45 = .ok (.invokevirtual 65, 3) := by decide +kernel
theorem d_Mo_seal_48 : decode b_Mo_seal 48 = .ok (.ifCond .ne 8, 3) := by decide +kernel
theorem d_Mo_seal_51 : decode b_Mo_seal 51 = .ok (.aload_n 0, 1) := by decide +kernel
theorem d_Mo_seal_52 : decode b_Mo_seal 52 = .ok (.iload_n 1, 1) := by decide +kernel
theorem d_Mo_seal_53 : decode b_Mo_seal 53 = .ok (.invokevirtual 91, 3) := by decide +kernel
theorem d_Mo_seal_56 : decode b_Mo_seal 56 = .ok (.aload_n 0, 1) := by decide +kernel
theorem d_Mo_seal_57 : decode b_Mo_seal 57 = .ok (.invokevirtual 94, 3) := by decide +kernel
theorem d_Mo_seal_60 : decode b_Mo_seal 60 = .ok (.iconst 0, 1) := by decide +kernel
theorem d_Mo_seal_61 : decode b_Mo_seal 61 = .ok (.ireturn, 1) := by decide +kernel
theorem d_Mo_goesBefore_0 : decode b_Mo_goesBefore 0 = .ok (.aload_n 0, 1) := by decide +kernel
theorem d_Mo_goesBefore_1 : decode b_Mo_goesBefore 1 = .ok (.iload_n 1, 1) := by decide +kernel
theorem d_Mo_goesBefore_2 : decode b_Mo_goesBefore 2 = .ok (.iconst 1, 1) := by decide +kernel
theorem d_Mo_goesBefore_3 : decode b_Mo_goesBefore 3 = .ok (.invokevirtual 65, 3) := by decide +kernel
theorem d_Mo_goesBefore_6 : decode b_Mo_goesBefore 6 = .ok (.aload_n 0, 1) := by decide +kernel
theorem d_Mo_goesBefore_7 : decode b_Mo_goesBefore 7 = .ok (.iload_n 2, 1) := by decide +kernel
theorem d_Mo_goesBefore_8 : decode b_Mo_goesBefore 8 = .ok (.iconst 1, 1) := by decide +kernel
theorem d_Mo_goesBefore_9 : decode b_Mo_goesBefore 9 = .ok (.invokevirtual 65, 3) := by decide +kernel
theorem d_Mo_goesBefore_12 : decode b_Mo_goesBefore 12 = .ok (.if_icmp .gt 35, 3) := by decide +kernel
theorem d_Mo_goesBefore_15 : decode b_Mo_goesBefore 15 = .ok (.aload_n 0, 1) := by decide +kernel
theorem d_Mo_goesBefore_16 : decode b_Mo_goesBefore 16 = .ok (.iload_n 1, 1) := by decide +kernel
theorem d_Mo_goesBefore_17 : decode b_Mo_goesBefore 17 = .ok (.iconst 1, 1) := by decide +kernel
theorem d_Mo_goesBefore_18 : decode b_Mo_goesBefore 18 = .ok (.invokevirtual 65, 3) := by decide +kernel
theorem d_Mo_goesBefore_21 : decode b_Mo_goesBefore 21 = .ok (.aload_n 0, 1) := by decide +kernel
theorem d_Mo_goesBefore_22 : decode b_Mo_goesBefore 22 = .ok (.iload_n 2, 1) := by decide +kernel
theorem d_Mo_goesBefore_23 : decode b_Mo_goesBefore 23 = .ok (.iconst 1, 1) := by decide +kernel
theorem d_Mo_goesBefore_24 : decode b_Mo_goesBefore 24 = .ok (.invokevirtual 65, 3) := by decide +kernel
theorem d_Mo_goesBefore_27 : decode b_Mo_goesBefore 27 = .ok (.if_icmp .ne 24, 3) := by decide +kernel
theorem d_Mo_goesBefore_30 : decode b_Mo_goesBefore 30 = .ok (.aload_n 0, 1) := by decide +kernel
theorem d_Mo_goesBefore_31 : decode b_Mo_goesBefore 31 = .ok (.iload_n 1, 1) := by decide +kernel
theorem d_Mo_goesBefore_32 : decode b_Mo_goesBefore 32 = .ok (.bipush 12, 2) := by decide +kernel
theorem d_Mo_goesBefore_34 : decode b_Mo_goesBefore 34 = .ok (.invokevirtual 65, 3) := by decide +kernel
theorem d_Mo_goesBefore_37 : decode b_Mo_goesBefore 37 = .ok (.aload_n 0, 1) := by decide +kernel
theorem d_Mo_goesBefore_38 : decode b_Mo_goesBefore 38 = .ok (.iload_n 2, 1) := by decide +kernel
theorem d_Mo_goesBefore_39 : decode b_Mo_goesBefore 39 = .ok (.bipush 12, 2) := by decide +kernel
theorem d_Mo_goesBefore_41 : decode b_Mo_goesBefore 41 = .ok (.invokevirtual 65, 3) := by decide +kernel
theorem d_Mo_goesBefore_44 : decode b_Mo_goesBefore 44 = .ok (.if_icmp .ge 7, 3) := by decide +kernel
theorem d_Mo_goesBefore_47 : decode b_Mo_goesBefore 47 = .ok (.iconst 1, 1) := by decide +kernel
theorem d_Mo_goesBefore_48 : decode b_Mo_goesBefore 48 = .ok (.goto 4, 3) := by decide +kernel
theorem d_Mo_goesBefore_51 : decode b_Mo_goesBefore 51 = .ok (.iconst 0, 1) := by decide +kernel
theorem d_Mo_goesBefore_52 : decode b_Mo_goesBefore 52 = .ok (.ireturn, 1) := by decide +kernel
theorem d_Mo_inLine_0 : decode b_Mo_inLine 0 = .ok (.iconst 0, 1) := by decide +kernel
theorem d_Mo_inLine_1 : decode b_Mo_inLine 1 = .ok (.istore_n 3, 1) := by decide +kernel
theorem d_Mo_inLine_2 : decode b_Mo_inLine 2 = .ok (.iload_n 3, 1) := by decide +kernel
theorem d_Mo_inLine_3 : decode b_Mo_inLine 3 = .ok (.aload_n 0, 1) := by decide +kernel
theorem d_Mo_inLine_4 : decode b_Mo_inLine 4 = .ok (.getfield 35, 3) := by decide +kernel
theorem d_Mo_inLine_7 : decode b_Mo_inLine 7 = .ok (.if_icmp .ge 98, 3) := by decide +kernel
theorem d_Mo_inLine_10 : decode b_Mo_inLine 10 = .ok (.aload_n 0, 1) := by decide +kernel
theorem d_Mo_inLine_11 : decode b_Mo_inLine 11 = .ok (.iload_n 3, 1) := by decide +kernel
theorem d_Mo_inLine_12 : decode b_Mo_inLine 12 = .ok (.iconst 0, 1) := by decide +kernel
theorem d_Mo_inLine_13 : decode b_Mo_inLine 13 = .ok (.invokevirtual 65, 3) := by decide +kernel
theorem d_Mo_inLine_16 : decode b_Mo_inLine 16 = .ok (.iload_n 1, 1) := by decide +kernel
theorem d_Mo_inLine_17 : decode b_Mo_inLine 17 = .ok (.if_icmp .ne 82, 3) := by decide +kernel
theorem d_Mo_inLine_20 : decode b_Mo_inLine 20 = .ok (.aload_n 0, 1) := by decide +kernel
theorem d_Mo_inLine_21 : decode b_Mo_inLine 21 = .ok (.iload_n 3, 1) := by decide +kernel
theorem d_Mo_inLine_22 : decode b_Mo_inLine 22 = .ok (.bipush 9, 2) := by decide +kernel
theorem d_Mo_inLine_24 : decode b_Mo_inLine 24 = .ok (.invokevirtual 65, 3) := by decide +kernel
theorem d_Mo_inLine_27 : decode b_Mo_inLine 27 = .ok (.iconst 1, 1) := by decide +kernel
theorem d_Mo_inLine_28 : decode b_Mo_inLine 28 = .ok (.if_icmp .eq 6, 3) := by decide +kernel
theorem d_Mo_inLine_31 : decode b_Mo_inLine 31 = .ok (.goto 68, 3) := by decide +kernel
theorem d_Mo_inLine_34 : decode b_Mo_inLine 34 = .ok (.iconst 0, 1) := by decide +kernel
theorem d_Mo_inLine_35 : decode b_Mo_inLine 35 = .ok (.istore 4, 2) := by decide +kernel
theorem d_Mo_inLine_37 : decode b_Mo_inLine 37 = .ok (.iconst 0, 1) := by decide +kernel
theorem d_Mo_inLine_38 : decode b_Mo_inLine 38 = .ok (.istore 5, 2) := by decide +kernel
theorem d_Mo_inLine_40 : decode b_Mo_inLine 40 = .ok (.iload 5, 2) := by decide +kernel
theorem d_Mo_inLine_42 : decode b_Mo_inLine 42 = .ok (.aload_n 0, 1) := by decide +kernel
theorem d_Mo_inLine_43 : decode b_Mo_inLine 43 = .ok (.getfield 35, 3) := by decide +kernel
theorem d_Mo_inLine_46 : decode b_Mo_inLine 46 = .ok (.if_icmp .ge 45, 3) := by decide +kernel
theorem d_Mo_inLine_49 : decode b_Mo_inLine 49 = .ok (.aload_n 0, 1) := by decide +kernel
theorem d_Mo_inLine_50 : decode b_Mo_inLine 50 = .ok (.iload 5, 2) := by decide +kernel
theorem d_Mo_inLine_52 : decode b_Mo_inLine 52 = .ok (.iconst 0, 1) := by decide +kernel
theorem d_Mo_inLine_53 : decode b_Mo_inLine 53 = .ok (.invokevirtual 65, 3) := by decide +kernel
theorem d_Mo_inLine_56 : decode b_Mo_inLine 56 = .ok (.iload_n 1, 1) := by decide +kernel
theorem d_Mo_inLine_57 : decode b_Mo_inLine 57 = .ok (.if_icmp .ne 28, 3) := by decide +kernel
theorem d_Mo_inLine_60 : decode b_Mo_inLine 60 = .ok (.aload_n 0, 1) := by decide +kernel
theorem d_Mo_inLine_61 : decode b_Mo_inLine 61 = .ok (.iload 5, 2) := by decide +kernel
theorem d_Mo_inLine_63 : decode b_Mo_inLine 63 = .ok (.bipush 9, 2) := by decide +kernel
theorem d_Mo_inLine_65 : decode b_Mo_inLine 65 = .ok (.invokevirtual 65, 3) := by decide +kernel
theorem d_Mo_inLine_68 : decode b_Mo_inLine 68 = .ok (.iconst 1, 1) := by decide +kernel
theorem d_Mo_inLine_69 : decode b_Mo_inLine 69 = .ok (.if_icmp .ne 16, 3) := by decide +kernel
theorem d_Mo_inLine_72 : decode b_Mo_inLine 72 = .ok (.aload_n 0, 1) := by decide +kernel
theorem d_Mo_inLine_73 : decode b_Mo_inLine 73 = .ok (.iload 5, 2) := by decide +kernel
theorem d_Mo_inLine_75 : decode b_Mo_inLine 75 = .ok (.iload_n 3, 1) := by decide +kernel
theorem d_Mo_inLine_76 : decode b_Mo_inLine 76 = .ok (.invokevirtual 100, 3) := by decide +kernel
theorem d_Mo_inLine_79 : decode b_Mo_inLine 79 = .ok (.ifCond .eq 6, 3) := by decide +kernel
theorem d_Mo_inLine_82 : decode b_Mo_inLine 82 = .ok (.iinc 4 1, 3) := by decide +kernel
theorem d_Mo_inLine_85 : decode b_Mo_inLine 85 = .ok (.iinc 5 1, 3) := by decide +kernel
theorem d_Mo_inLine_88 : decode b_Mo_inLine 88 = .ok (.goto (-48), 3) := by decide +kernel
theorem d_Mo_inLine_91 : decode b_Mo_inLine 91 = .ok (.iload 4, 2) := by decide +kernel
theorem d_Mo_inLine_93 : decode b_Mo_inLine 93 = .ok (.iload_n 2, 1) := by decide +kernel
theorem d_Mo_inLine_94 : decode b_Mo_inLine 94 = .ok (.if_icmp .ne 5, 3) := by decide +kernel
theorem d_Mo_inLine_97 : decode b_Mo_inLine 97 = .ok (.iload_n 3, 1) := by decide +kernel
theorem d_Mo_inLine_98 : decode b_Mo_inLine 98 = .ok (.ireturn, 1) := by decide +kernel
theorem d_Mo_inLine_99 : decode b_Mo_inLine 99 = .ok (.iinc 3 1, 3) := by decide +kernel
theorem d_Mo_inLine_102 : decode b_Mo_inLine 102 = .ok (.goto (-100), 3) := by decide +kernel
theorem d_Mo_inLine_105 : decode b_Mo_inLine 105 = .ok (.iconst (-1), 1) := by decide +kernel
theorem d_Mo_inLine_106 : decode b_Mo_inLine 106 = .ok (.ireturn, 1) := by decide +kernel
theorem d_Mo_isOpen_0 : decode b_Mo_isOpen 0 = .ok (.aload_n 0, 1) := by decide +kernel
theorem d_Mo_isOpen_1 : decode b_Mo_isOpen 1 = .ok (.getfield 13, 3) := by decide +kernel
theorem d_Mo_isOpen_4 : decode b_Mo_isOpen 4 = .ok (.iload_n 1, 1) := by decide +kernel
theorem d_Mo_isOpen_5 : decode b_Mo_isOpen 5 = .ok (.iaload, 1) := by decide +kernel
theorem d_Mo_isOpen_6 : decode b_Mo_isOpen 6 = .ok (.ifCond .le 34, 3) := by decide +kernel
theorem d_Mo_isOpen_9 : decode b_Mo_isOpen 9 = .ok (.aload_n 0, 1) := by decide +kernel
theorem d_Mo_isOpen_10 : decode b_Mo_isOpen 10 = .ok (.getfield 20, 3) := by decide +kernel
theorem d_Mo_isOpen_13 : decode b_Mo_isOpen 13 = .ok (.iload_n 1, 1) := by decide +kernel
theorem d_Mo_isOpen_14 : decode b_Mo_isOpen 14 = .ok (.iaload, 1) := by decide +kernel
theorem d_Mo_isOpen_15 : decode b_Mo_isOpen 15 = .ok (.ifCond .eq 12, 3) := by decide +kernel
theorem d_Mo_isOpen_18 : decode b_Mo_isOpen 18 = .ok (.aload_n 0, 1) := by decide +kernel
theorem d_Mo_isOpen_19 : decode b_Mo_isOpen 19 = .ok (.getfield 23, 3) := by decide +kernel
theorem d_Mo_isOpen_22 : decode b_Mo_isOpen 22 = .ok (.iload_n 1, 1) := by decide +kernel
theorem d_Mo_isOpen_23 : decode b_Mo_isOpen 23 = .ok (.iaload, 1) := by decide +kernel
theorem d_Mo_isOpen_24 : decode b_Mo_isOpen 24 = .ok (.ifCond .le 16, 3) := by decide +kernel
theorem d_Mo_isOpen_27 : decode b_Mo_isOpen 27 = .ok (.aload_n 0, 1) := by decide +kernel
theorem d_Mo_isOpen_28 : decode b_Mo_isOpen 28 = .ok (.iload_n 1, 1) := by decide +kernel
theorem d_Mo_isOpen_29 : decode b_Mo_isOpen 29 = .ok (.iconst 0, 1) := by decide +kernel
theorem d_Mo_isOpen_30 : decode b_Mo_isOpen 30 = .ok (.invokevirtual 104, 3) := by decide +kernel
theorem d_Mo_isOpen_33 : decode b_Mo_isOpen 33 = .ok (.ifCond .lt 7, 3) := by decide +kernel
theorem d_Mo_isOpen_36 : decode b_Mo_isOpen 36 = .ok (.iconst 1, 1) := by decide +kernel
theorem d_Mo_isOpen_37 : decode b_Mo_isOpen 37 = .ok (.goto 4, 3) := by decide +kernel
theorem d_Mo_isOpen_40 : decode b_Mo_isOpen 40 = .ok (.iconst 0, 1) := by decide +kernel
theorem d_Mo_isOpen_41 : decode b_Mo_isOpen 41 = .ok (.ireturn, 1) := by decide +kernel
theorem d_Mo_choose_0 : decode b_Mo_choose 0 = .ok (.iconst (-1), 1) := by decide +kernel
theorem d_Mo_choose_1 : decode b_Mo_choose 1 = .ok (.istore_n 1, 1) := by decide +kernel
theorem d_Mo_choose_2 : decode b_Mo_choose 2 = .ok (.iconst 0, 1) := by decide +kernel
theorem d_Mo_choose_3 : decode b_Mo_choose 3 = .ok (.istore_n 2, 1) := by decide +kernel
theorem d_Mo_choose_4 : decode b_Mo_choose 4 = .ok (.iconst 0, 1) := by decide +kernel
theorem d_Mo_choose_5 : decode b_Mo_choose 5 = .ok (.istore_n 3, 1) := by decide +kernel
theorem d_Mo_choose_6 : decode b_Mo_choose 6 = .ok (.iload_n 3, 1) := by decide +kernel
theorem d_Mo_choose_7 : decode b_Mo_choose 7 = .ok (.iconst 4, 1) := by decide +kernel
theorem d_Mo_choose_8 : decode b_Mo_choose 8 = .ok (.if_icmp .ge 74, 3) := by decide +kernel
theorem d_Mo_choose_11 : decode b_Mo_choose 11 = .ok (.aload_n 0, 1) := by decide +kernel
theorem d_Mo_choose_12 : decode b_Mo_choose 12 = .ok (.iload_n 3, 1) := by decide +kernel
theorem d_Mo_choose_13 : decode b_Mo_choose 13 = .ok (.invokevirtual 107, 3) := by decide +kernel
theorem d_Mo_choose_16 : decode b_Mo_choose 16 = .ok (.ifCond .ne 6, 3) := by decide +kernel
theorem d_Mo_choose_19 : decode b_Mo_choose 19 = .ok (.goto 57, 3) := by decide +kernel
theorem d_Mo_choose_22 : decode b_Mo_choose 22 = .ok (.aload_n 0, 1) := by decide +kernel
theorem d_Mo_choose_23 : decode b_Mo_choose 23 = .ok (.getfield 57, 3) := by decide +kernel
theorem d_Mo_choose_26 : decode b_Mo_choose 26 = .ok (.ifCond .eq 5, 3) := by decide +kernel
theorem d_Mo_choose_29 : decode b_Mo_choose 29 = .ok (.iload_n 3, 1) := by decide +kernel
theorem d_Mo_choose_30 : decode b_Mo_choose 30 = .ok (.ireturn, 1) := by decide +kernel
theorem d_Mo_choose_31 : decode b_Mo_choose 31 = .ok (.aload_n 0, 1) := by decide +kernel
theorem d_Mo_choose_32 : decode b_Mo_choose 32 = .ok (.getfield 17, 3) := by decide +kernel
theorem d_Mo_choose_35 : decode b_Mo_choose 35 = .ok (.iload_n 3, 1) := by decide +kernel
theorem d_Mo_choose_36 : decode b_Mo_choose 36 = .ok (.dup2, 1) := by decide +kernel
theorem d_Mo_choose_37 : decode b_Mo_choose 37 = .ok (.iaload, 1) := by decide +kernel
theorem d_Mo_choose_38 : decode b_Mo_choose 38 = .ok (.aload_n 0, 1) := by decide +kernel
theorem d_Mo_choose_39 : decode b_Mo_choose 39 = .ok (.getfield 13, 3) := by decide +kernel
theorem d_Mo_choose_42 : decode b_Mo_choose 42 = .ok (.iload_n 3, 1) := by decide +kernel
theorem d_Mo_choose_43 : decode b_Mo_choose 43 = .ok (.iaload, 1) := by decide +kernel
theorem d_Mo_choose_44 : decode b_Mo_choose 44 = .ok (.iadd, 1) := by decide +kernel
theorem d_Mo_choose_45 : decode b_Mo_choose 45 = .ok (.iastore, 1) := by decide +kernel
theorem d_Mo_choose_46 : decode b_Mo_choose 46 = .ok (.iload_n 2, 1) := by decide +kernel
theorem d_Mo_choose_47 : decode b_Mo_choose 47 = .ok (.aload_n 0, 1) := by decide +kernel
theorem d_Mo_choose_48 : decode b_Mo_choose 48 = .ok (.getfield 13, 3) := by decide +kernel
theorem d_Mo_choose_51 : decode b_Mo_choose 51 = .ok (.iload_n 3, 1) := by decide +kernel
theorem d_Mo_choose_52 : decode b_Mo_choose 52 = .ok (.iaload, 1) := by decide +kernel
theorem d_Mo_choose_53 : decode b_Mo_choose 53 = .ok (.iadd, 1) := by decide +kernel
theorem d_Mo_choose_54 : decode b_Mo_choose 54 = .ok (.istore_n 2, 1) := by decide +kernel
theorem d_Mo_choose_55 : decode b_Mo_choose 55 = .ok (.iload_n 1, 1) := by decide +kernel
theorem d_Mo_choose_56 : decode b_Mo_choose 56 = .ok (.ifCond .lt 18, 3) := by decide +kernel
theorem d_Mo_choose_59 : decode b_Mo_choose 59 = .ok (.aload_n 0, 1) := by decide +kernel
theorem d_Mo_choose_60 : decode b_Mo_choose 60 = .ok (.getfield 17, 3) := by decide +kernel
theorem d_Mo_choose_63 : decode b_Mo_choose 63 = .ok (.iload_n 3, 1) := by decide +kernel
theorem d_Mo_choose_64 : decode b_Mo_choose 64 = .ok (.iaload, 1) := by decide +kernel
theorem d_Mo_choose_65 : decode b_Mo_choose 65 = .ok (.aload_n 0, 1) := by decide +kernel
theorem d_Mo_choose_66 : decode b_Mo_choose 66 = .ok (.getfield 17, 3) := by decide +kernel
theorem d_Mo_choose_69 : decode b_Mo_choose 69 = .ok (.iload_n 1, 1) := by decide +kernel
theorem d_Mo_choose_70 : decode b_Mo_choose 70 = .ok (.iaload, 1) := by decide +kernel
theorem d_Mo_choose_71 : decode b_Mo_choose 71 = .ok (.if_icmp .le 5, 3) := by decide +kernel
theorem d_Mo_choose_74 : decode b_Mo_choose 74 = .ok (.iload_n 3, 1) := by decide +kernel
theorem d_Mo_choose_75 : decode b_Mo_choose 75 = .ok (.istore_n 1, 1) := by decide +kernel
theorem d_Mo_choose_76 : decode b_Mo_choose 76 = .ok (.iinc 3 1, 3) := by decide +kernel
theorem d_Mo_choose_79 : decode b_Mo_choose 79 = .ok (.goto (-73), 3) := by decide +kernel
theorem d_Mo_choose_82 : decode b_Mo_choose 82 = .ok (.iload_n 1, 1) := by decide +kernel
theorem d_Mo_choose_83 : decode b_Mo_choose 83 = .ok (.ifCond .lt 13, 3) := by decide +kernel
theorem d_Mo_choose_86 : decode b_Mo_choose 86 = .ok (.aload_n 0, 1) := by decide +kernel
theorem d_Mo_choose_87 : decode b_Mo_choose 87 = .ok (.getfield 17, 3) := by decide +kernel
theorem d_Mo_choose_90 : decode b_Mo_choose 90 = .ok (.iload_n 1, 1) := by decide +kernel
theorem d_Mo_choose_91 : decode b_Mo_choose 91 = .ok (.dup2, 1) := by decide +kernel
theorem d_Mo_choose_92 : decode b_Mo_choose 92 = .ok (.iaload, 1) := by decide +kernel
theorem d_Mo_choose_93 : decode b_Mo_choose 93 = .ok (.iload_n 2, 1) := by decide +kernel
theorem d_Mo_choose_94 : decode b_Mo_choose 94 = .ok (.isub, 1) := by decide +kernel
theorem d_Mo_choose_95 : decode b_Mo_choose 95 = .ok (.iastore, 1) := by decide +kernel
theorem d_Mo_choose_96 : decode b_Mo_choose 96 = .ok (.iload_n 1, 1) := by decide +kernel
theorem d_Mo_choose_97 : decode b_Mo_choose 97 = .ok (.ireturn, 1) := by decide +kernel
theorem d_Mo_holding_0 : decode b_Mo_holding 0 = .ok (.aload_n 0, 1) := by decide +kernel
theorem d_Mo_holding_1 : decode b_Mo_holding 1 = .ok (.iload_n 1, 1) := by decide +kernel
theorem d_Mo_holding_2 : decode b_Mo_holding 2 = .ok (.iconst 0, 1) := by decide +kernel
theorem d_Mo_holding_3 : decode b_Mo_holding 3 = .ok (.iconst 5, 1) := by decide +kernel
theorem d_Mo_holding_4 : decode b_Mo_holding 4 = .ok (.invokevirtual 80, 3) := by decide +kernel
theorem d_Mo_holding_7 : decode b_Mo_holding 7 = .ok (.ifCond .eq 5, 3) := by decide +kernel
theorem d_Mo_holding_10 : decode b_Mo_holding 10 = .ok (.iconst (-1), 1) := by decide +kernel
theorem d_Mo_holding_11 : decode b_Mo_holding 11 = .ok (.ireturn, 1) := by decide +kernel
theorem d_Mo_holding_12 : decode b_Mo_holding 12 = .ok (.iconst 0, 1) := by decide +kernel
theorem d_Mo_holding_13 : decode b_Mo_holding 13 = .ok (.istore_n 2, 1) := by decide +kernel
theorem d_Mo_holding_14 : decode b_Mo_holding 14 = .ok (.iload_n 2, 1) := by decide +kernel
theorem d_Mo_holding_15 : decode b_Mo_holding 15 = .ok (.aload_n 0, 1) := by decide +kernel
theorem d_Mo_holding_16 : decode b_Mo_holding 16 = .ok (.getfield 35, 3) := by decide +kernel
theorem d_Mo_holding_19 : decode b_Mo_holding 19 = .ok (.if_icmp .ge 33, 3) := by decide +kernel
theorem d_Mo_holding_22 : decode b_Mo_holding 22 = .ok (.aload_n 0, 1) := by decide +kernel
theorem d_Mo_holding_23 : decode b_Mo_holding 23 = .ok (.iload_n 2, 1) := by decide +kernel
theorem d_Mo_holding_24 : decode b_Mo_holding 24 = .ok (.bipush 9, 2) := by decide +kernel
theorem d_Mo_holding_26 : decode b_Mo_holding 26 = .ok (.invokevirtual 65, 3) := by decide +kernel
theorem d_Mo_holding_29 : decode b_Mo_holding 29 = .ok (.iconst 2, 1) := by decide +kernel
theorem d_Mo_holding_30 : decode b_Mo_holding 30 = .ok (.if_icmp .ne 16, 3) := by decide +kernel
theorem d_Mo_holding_33 : decode b_Mo_holding 33 = .ok (.aload_n 0, 1) := by decide +kernel
theorem d_Mo_holding_34 : decode b_Mo_holding 34 = .ok (.iload_n 2, 1) := by decide +kernel
theorem d_Mo_holding_35 : decode b_Mo_holding 35 = .ok (.bipush 11, 2) := by decide +kernel
theorem d_Mo_holding_37 : decode b_Mo_holding 37 = .ok (.invokevirtual 65, 3) := by decide +kernel
theorem d_Mo_holding_40 : decode b_Mo_holding 40 = .ok (.iload_n 1, 1) := by decide +kernel
theorem d_Mo_holding_41 : decode b_Mo_holding 41 = .ok (.if_icmp .ne 5, 3) := by decide +kernel
theorem d_Mo_holding_44 : decode b_Mo_holding 44 = .ok (.iload_n 2, 1) := by decide +kernel
theorem d_Mo_holding_45 : decode b_Mo_holding 45 = .ok (.ireturn, 1) := by decide +kernel
theorem d_Mo_holding_46 : decode b_Mo_holding 46 = .ok (.iinc 2 1, 3) := by decide +kernel
theorem d_Mo_holding_49 : decode b_Mo_holding 49 = .ok (.goto (-35), 3) := by decide +kernel
theorem d_Mo_holding_52 : decode b_Mo_holding 52 = .ok (.bipush (-4), 2) := by decide +kernel
theorem d_Mo_holding_54 : decode b_Mo_holding 54 = .ok (.ireturn, 1) := by decide +kernel
def fn_Mo_queue (N : Nat) (p0 : Int32) (p1 : Int32) (p2 : Int32) (p3 : Int32) (σ : gx_M) : Option (Int32 × gx_M) := gx_bd (fn_Mo_out N p0 ((0 : Int32)) ((3 : Int32)) σ) (fun r_3 σ_1 => if r_3 = 0 then (gx_bd (fn_Mo_out N p1 ((0 : Int32)) ((8 : Int32)) σ_1) (fun r_7 σ_5 => if r_7 = 0 then (gx_bd (fn_Mo_out N p2 ((0 : Int32)) ((20 : Int32)) σ_5) (fun r_11 σ_9 => if r_11 = 0 then (gx_bd (fn_Mo_out N p3 ((1 : Int32)) ((50 : Int32)) σ_9) (fun r_15 σ_13 => if r_15 = 0 then (if 0 ≤ p0 ∧ p0 < 4 then (gx_lt (gx_up σ_13 723 p0.toNatClampNeg p1) (fun σ_18 => if 0 ≤ p0 ∧ p0 < 4 then (gx_lt (gx_up σ_18 725 p0.toNatClampNeg p2) (fun σ_20 => if 0 ≤ p0 ∧ p0 < 4 then (gx_lt (gx_up σ_20 727 p0.toNatClampNeg p3) (fun σ_22 => if 0 ≤ p0 ∧ p0 < 4 then (gx_lt (gx_up σ_22 724 p0.toNatClampNeg ((0 : Int32))) (fun σ_24 => if 0 ≤ p0 ∧ p0 < 4 then (gx_lt (gx_up σ_24 726 p0.toNatClampNeg p2) (fun σ_26 => if 0 ≤ p0 ∧ p0 < 4 then (gx_lt (gx_up σ_26 728 p0.toNatClampNeg (σ_26 722 1)) (fun σ_28 => some ((0 : Int32), σ_28))) else none)) else none)) else none)) else none)) else none)) else none) else (some ((-1 : Int32), σ_13)))) else (some ((-1 : Int32), σ_9)))) else (some ((-1 : Int32), σ_5)))) else (some ((-1 : Int32), σ_1)))
set_option maxHeartbeats 4000000 in
set_option maxRecDepth 100000 in
theorem ct_Mo_queue (l : Launch) (D : va_G) (dA : Nat → ClassId) (adr : Nat → Nat) (A : Nat → Prop) (hA : gx_A A adr) (N : Nat) (p0 : Int32) (p1 : Int32) (p2 : Int32) (p3 : Int32) (σ : gx_M) (r : Int32) (σ' : gx_M) (hf : fn_Mo_queue N p0 p1 p2 p3 σ = some (r, σ')) : Met l y_Mo_queue w_Mo_queue rm_Mo_queue (gx_Pc D dA adr σ [.ref (adr 722), .int p0, .int p1, .int p2, .int p3]) (gx_Q D dA adr A (some (.int r)) σ') 0 0 A := by
  refine Met.ofW (cc := b_Mo_queue) (maxL := 5) (ret := some .int) (by decide) rfl ?_
  intro p e s m args below meth c s₁ B hml hv
  obtain ⟨rfl, hP, hK⟩ := hv
  have hx := B.exec
  have hb := B.bytes
  have hr := B.returns
  have hlocks := B.notSynchronized
  have ht : ∀ w ∈ gx_tb, w.before _ s = true := fun w h => atoms_spec (ws := w_Mo_queue) B.pre w (List.mem_cons_of_mem _ h)
  have hown : s.vm.findClass R_Mo = some m.cls := findClass_of_methodNamed B.named
  have G : gx_G p m c b_Mo_queue 5 s _ gx_tb R_Mo D dA := ⟨⟨hx, hb, hml, hown, ht⟩, hK⟩
  have hI : gx_I D dA adr A s.heap σ s.heap [] := ⟨hP, va_S.rf⟩
  have hl := lv_entry ([.ref (adr 722), .int p0, .int p1, .int p2, .int p3]) (n := 5) (Nat.le_of_ble_eq_true rfl)
  rw [lg_entry_eq]
  generalize (lg_sl ([.ref (adr 722), .int p0, .int p1, .int p2, .int p3]) ++ List.replicate (5 - (lg_sl ([.ref (adr 722), .int p0, .int p1, .int p2, .int p3])).length) Slot.unset).toArray = ls at hl ⊢
  have hl : lv_has ls 5 [(0, .ref (adr 722)), (1, .int p0), (2, .int p1), (3, .int p2), (4, .int p3)] := hl
  rw [fn_Mo_queue] at hf
  refine lv_aload_n hx hb d_Mo_queue_0 rfl (lv_at hl 0 rfl) ?_
  refine lv_iload_n hx hb d_Mo_queue_1 rfl (lv_at hl 1 rfl) ?_
  refine lv_iconst (v := 0) hx hb d_Mo_queue_2 (by decide) ?_
  refine lv_iconst (v := 3) hx hb d_Mo_queue_3 (by decide) ?_
  obtain ⟨r_3, σ_1, hc_2, hf⟩ := gx_bde hf
  refine gx_go (va_runV (As := [.int p0, .int ((0 : Int32)), .int ((3 : Int32))]) (rest := []) G.1 (ct_Mo_out l D dA adr A hA N p0 ((0 : Int32)) ((3 : Int32)) σ r_3 σ_1 hc_2) (cwV 3 ht gi_Mo_80 rfl rfl rfl (by decide +kernel) ⟨Nat.le_of_ble_eq_true rfl, Nat.le_of_ble_eq_true rfl⟩) (gx_preV G hI cl_Mo (by decide)) rfl rfl hl.1 rfl (lv_room (Nat.le_of_ble_eq_true rfl)) d_Mo_queue_4 ⟨Nat.zero_le _, Nat.zero_le _⟩) hI (st1 := [.int r_3]) rfl (fun H locs hI => ?_)
  refine lv_if_ne (tgt := 44) hx hb d_Mo_queue_7 (by decide) (fun c_4 => ?_) (fun c_4 => ?_)
  · replace hf := (if_neg c_4).symm.trans hf
    refine lv_iconst (v := (-1)) hx hb d_Mo_queue_44 (by decide) ?_
    cases hf
    exact W.iret hx hb hr (gx_F hI) hI.2.2.2 d_Mo_queue_45
  · replace hf := (if_pos c_4).symm.trans hf
    refine lv_aload_n hx hb d_Mo_queue_10 rfl (lv_at hl 0 rfl) ?_
    refine lv_iload_n hx hb d_Mo_queue_11 rfl (lv_at hl 2 rfl) ?_
    refine lv_iconst (v := 0) hx hb d_Mo_queue_12 (by decide) ?_
    refine lv_bipush (v := 8) hx hb d_Mo_queue_13 (by decide) ?_
    obtain ⟨r_7, σ_5, hc_6, hf⟩ := gx_bde hf
    refine gx_go (va_runV (As := [.int p1, .int ((0 : Int32)), .int ((8 : Int32))]) (rest := []) G.1 (ct_Mo_out l D dA adr A hA N p1 ((0 : Int32)) ((8 : Int32)) σ_1 r_7 σ_5 hc_6) (cwV 3 ht gi_Mo_80 rfl rfl rfl (by decide +kernel) ⟨Nat.le_of_ble_eq_true rfl, Nat.le_of_ble_eq_true rfl⟩) (gx_preV G hI cl_Mo (by decide)) rfl rfl hl.1 rfl (lv_room (Nat.le_of_ble_eq_true rfl)) d_Mo_queue_15 ⟨Nat.zero_le _, Nat.zero_le _⟩) hI (st1 := [.int r_7]) rfl (fun H locs hI => ?_)
    refine lv_if_ne (tgt := 44) hx hb d_Mo_queue_18 (by decide) (fun c_8 => ?_) (fun c_8 => ?_)
    · replace hf := (if_neg c_8).symm.trans hf
      refine lv_iconst (v := (-1)) hx hb d_Mo_queue_44 (by decide) ?_
      cases hf
      exact W.iret hx hb hr (gx_F hI) hI.2.2.2 d_Mo_queue_45
    · replace hf := (if_pos c_8).symm.trans hf
      refine lv_aload_n hx hb d_Mo_queue_21 rfl (lv_at hl 0 rfl) ?_
      refine lv_iload_n hx hb d_Mo_queue_22 rfl (lv_at hl 3 rfl) ?_
      refine lv_iconst (v := 0) hx hb d_Mo_queue_23 (by decide) ?_
      refine lv_bipush (v := 20) hx hb d_Mo_queue_24 (by decide) ?_
      obtain ⟨r_11, σ_9, hc_10, hf⟩ := gx_bde hf
      refine gx_go (va_runV (As := [.int p2, .int ((0 : Int32)), .int ((20 : Int32))]) (rest := []) G.1 (ct_Mo_out l D dA adr A hA N p2 ((0 : Int32)) ((20 : Int32)) σ_5 r_11 σ_9 hc_10) (cwV 3 ht gi_Mo_80 rfl rfl rfl (by decide +kernel) ⟨Nat.le_of_ble_eq_true rfl, Nat.le_of_ble_eq_true rfl⟩) (gx_preV G hI cl_Mo (by decide)) rfl rfl hl.1 rfl (lv_room (Nat.le_of_ble_eq_true rfl)) d_Mo_queue_26 ⟨Nat.zero_le _, Nat.zero_le _⟩) hI (st1 := [.int r_11]) rfl (fun H locs hI => ?_)
      refine lv_if_ne (tgt := 44) hx hb d_Mo_queue_29 (by decide) (fun c_12 => ?_) (fun c_12 => ?_)
      · replace hf := (if_neg c_12).symm.trans hf
        refine lv_iconst (v := (-1)) hx hb d_Mo_queue_44 (by decide) ?_
        cases hf
        exact W.iret hx hb hr (gx_F hI) hI.2.2.2 d_Mo_queue_45
      · replace hf := (if_pos c_12).symm.trans hf
        refine lv_aload_n hx hb d_Mo_queue_32 rfl (lv_at hl 0 rfl) ?_
        refine lv_iload hx hb d_Mo_queue_33 (lv_at hl 4 rfl) ?_
        refine lv_iconst (v := 1) hx hb d_Mo_queue_35 (by decide) ?_
        refine lv_bipush (v := 50) hx hb d_Mo_queue_36 (by decide) ?_
        obtain ⟨r_15, σ_13, hc_14, hf⟩ := gx_bde hf
        refine gx_go (va_runV (As := [.int p3, .int ((1 : Int32)), .int ((50 : Int32))]) (rest := []) G.1 (ct_Mo_out l D dA adr A hA N p3 ((1 : Int32)) ((50 : Int32)) σ_9 r_15 σ_13 hc_14) (cwV 3 ht gi_Mo_80 rfl rfl rfl (by decide +kernel) ⟨Nat.le_of_ble_eq_true rfl, Nat.le_of_ble_eq_true rfl⟩) (gx_preV G hI cl_Mo (by decide)) rfl rfl hl.1 rfl (lv_room (Nat.le_of_ble_eq_true rfl)) d_Mo_queue_38 ⟨Nat.zero_le _, Nat.zero_le _⟩) hI (st1 := [.int r_15]) rfl (fun H locs hI => ?_)
        refine lv_if_eq (tgt := 46) hx hb d_Mo_queue_41 (by decide) (fun c_16 => ?_) (fun c_16 => ?_)
        · replace hf := (if_pos c_16).symm.trans hf
          refine lv_aload_n hx hb d_Mo_queue_46 rfl (lv_at hl 0 rfl) ?_
          refine gx_getR (o' := 723) G hI cl_Mo (by decide) 2 (by decide) (by decide) fl_Mo_13 d_Mo_queue_47 ?_
          refine lv_iload_n hx hb d_Mo_queue_50 rfl (lv_at hl 1 rfl) ?_
          refine lv_iload_n hx hb d_Mo_queue_51 rfl (lv_at hl 2 rfl) ?_
          obtain ⟨hi_17, hf⟩ := gx_gd hf
          obtain ⟨σ_18, eσ_18, hf⟩ := gx_lte hf
          refine gx_ist G hI hA (by decide) (gx_in hi_17 (by decide)) eσ_18 d_Mo_queue_52 (fun H locs hI => ?_)
          refine lv_aload_n hx hb d_Mo_queue_53 rfl (lv_at hl 0 rfl) ?_
          refine gx_getR (o' := 725) G hI cl_Mo (by decide) 4 (by decide) (by decide) fl_Mo_20 d_Mo_queue_54 ?_
          refine lv_iload_n hx hb d_Mo_queue_57 rfl (lv_at hl 1 rfl) ?_
          refine lv_iload_n hx hb d_Mo_queue_58 rfl (lv_at hl 3 rfl) ?_
          obtain ⟨hi_19, hf⟩ := gx_gd hf
          obtain ⟨σ_20, eσ_20, hf⟩ := gx_lte hf
          refine gx_ist G hI hA (by decide) (gx_in hi_19 (by decide)) eσ_20 d_Mo_queue_59 (fun H locs hI => ?_)
          refine lv_aload_n hx hb d_Mo_queue_60 rfl (lv_at hl 0 rfl) ?_
          refine gx_getR (o' := 727) G hI cl_Mo (by decide) 6 (by decide) (by decide) fl_Mo_26 d_Mo_queue_61 ?_
          refine lv_iload_n hx hb d_Mo_queue_64 rfl (lv_at hl 1 rfl) ?_
          refine lv_iload hx hb d_Mo_queue_65 (lv_at hl 4 rfl) ?_
          obtain ⟨hi_21, hf⟩ := gx_gd hf
          obtain ⟨σ_22, eσ_22, hf⟩ := gx_lte hf
          refine gx_ist G hI hA (by decide) (gx_in hi_21 (by decide)) eσ_22 d_Mo_queue_67 (fun H locs hI => ?_)
          refine lv_aload_n hx hb d_Mo_queue_68 rfl (lv_at hl 0 rfl) ?_
          refine gx_getR (o' := 724) G hI cl_Mo (by decide) 3 (by decide) (by decide) fl_Mo_17 d_Mo_queue_69 ?_
          refine lv_iload_n hx hb d_Mo_queue_72 rfl (lv_at hl 1 rfl) ?_
          refine lv_iconst (v := 0) hx hb d_Mo_queue_73 (by decide) ?_
          obtain ⟨hi_23, hf⟩ := gx_gd hf
          obtain ⟨σ_24, eσ_24, hf⟩ := gx_lte hf
          refine gx_ist G hI hA (by decide) (gx_in hi_23 (by decide)) eσ_24 d_Mo_queue_74 (fun H locs hI => ?_)
          refine lv_aload_n hx hb d_Mo_queue_75 rfl (lv_at hl 0 rfl) ?_
          refine gx_getR (o' := 726) G hI cl_Mo (by decide) 5 (by decide) (by decide) fl_Mo_23 d_Mo_queue_76 ?_
          refine lv_iload_n hx hb d_Mo_queue_79 rfl (lv_at hl 1 rfl) ?_
          refine lv_iload_n hx hb d_Mo_queue_80 rfl (lv_at hl 3 rfl) ?_
          obtain ⟨hi_25, hf⟩ := gx_gd hf
          obtain ⟨σ_26, eσ_26, hf⟩ := gx_lte hf
          refine gx_ist G hI hA (by decide) (gx_in hi_25 (by decide)) eσ_26 d_Mo_queue_81 (fun H locs hI => ?_)
          refine lv_aload_n hx hb d_Mo_queue_82 rfl (lv_at hl 0 rfl) ?_
          refine gx_getR (o' := 728) G hI cl_Mo (by decide) 7 (by decide) (by decide) fl_Mo_29 d_Mo_queue_83 ?_
          refine lv_iload_n hx hb d_Mo_queue_86 rfl (lv_at hl 1 rfl) ?_
          refine lv_aload_n hx hb d_Mo_queue_87 rfl (lv_at hl 0 rfl) ?_
          refine gx_getI G hI cl_Mo (by decide) 1 (by decide) (by decide) fl_Mo_7 d_Mo_queue_88 ?_
          obtain ⟨hi_27, hf⟩ := gx_gd hf
          obtain ⟨σ_28, eσ_28, hf⟩ := gx_lte hf
          refine gx_ist G hI hA (by decide) (gx_in hi_27 (by decide)) eσ_28 d_Mo_queue_91 (fun H locs hI => ?_)
          refine lv_iconst (v := 0) hx hb d_Mo_queue_92 (by decide) ?_
          cases hf
          exact W.iret hx hb hr (gx_F hI) hI.2.2.2 d_Mo_queue_93
        · replace hf := (if_neg c_16).symm.trans hf
          refine lv_iconst (v := (-1)) hx hb d_Mo_queue_44 (by decide) ?_
          cases hf
          exact W.iret hx hb hr (gx_F hI) hI.2.2.2 d_Mo_queue_45
def fn_Mo_key (N : Nat) (p0 : Int32) (σ : gx_M) : Option (Int32 × gx_M) := gx_bd (fn_Mo_out N p0 ((-1 : Int32)) ((31 : Int32)) σ) (fun r_3 σ_1 => if r_3 = 0 then (gx_lt (gx_up σ_1 722 8 p0) (fun σ_5 => some ((0 : Int32), σ_5))) else (some ((-1 : Int32), σ_1)))
set_option maxHeartbeats 4000000 in
set_option maxRecDepth 100000 in
theorem ct_Mo_key (l : Launch) (D : va_G) (dA : Nat → ClassId) (adr : Nat → Nat) (A : Nat → Prop) (hA : gx_A A adr) (N : Nat) (p0 : Int32) (σ : gx_M) (r : Int32) (σ' : gx_M) (hf : fn_Mo_key N p0 σ = some (r, σ')) : Met l y_Mo_key w_Mo_key rm_Mo_key (gx_Pc D dA adr σ [.ref (adr 722), .int p0]) (gx_Q D dA adr A (some (.int r)) σ') 0 0 A := by
  refine Met.ofW (cc := b_Mo_key) (maxL := 2) (ret := some .int) (by decide) rfl ?_
  intro p e s m args below meth c s₁ B hml hv
  obtain ⟨rfl, hP, hK⟩ := hv
  have hx := B.exec
  have hb := B.bytes
  have hr := B.returns
  have hlocks := B.notSynchronized
  have ht : ∀ w ∈ gx_tb, w.before _ s = true := fun w h => atoms_spec (ws := w_Mo_key) B.pre w (List.mem_cons_of_mem _ h)
  have hown : s.vm.findClass R_Mo = some m.cls := findClass_of_methodNamed B.named
  have G : gx_G p m c b_Mo_key 2 s _ gx_tb R_Mo D dA := ⟨⟨hx, hb, hml, hown, ht⟩, hK⟩
  have hI : gx_I D dA adr A s.heap σ s.heap [] := ⟨hP, va_S.rf⟩
  have hl := lv_entry ([.ref (adr 722), .int p0]) (n := 2) (Nat.le_of_ble_eq_true rfl)
  rw [lg_entry_eq]
  generalize (lg_sl ([.ref (adr 722), .int p0]) ++ List.replicate (2 - (lg_sl ([.ref (adr 722), .int p0])).length) Slot.unset).toArray = ls at hl ⊢
  have hl : lv_has ls 2 [(0, .ref (adr 722)), (1, .int p0)] := hl
  rw [fn_Mo_key] at hf
  refine lv_aload_n hx hb d_Mo_key_0 rfl (lv_at hl 0 rfl) ?_
  refine lv_iload_n hx hb d_Mo_key_1 rfl (lv_at hl 1 rfl) ?_
  refine lv_iconst (v := (-1)) hx hb d_Mo_key_2 (by decide) ?_
  refine lv_bipush (v := 31) hx hb d_Mo_key_3 (by decide) ?_
  obtain ⟨r_3, σ_1, hc_2, hf⟩ := gx_bde hf
  refine gx_go (va_runV (As := [.int p0, .int ((-1 : Int32)), .int ((31 : Int32))]) (rest := []) G.1 (ct_Mo_out l D dA adr A hA N p0 ((-1 : Int32)) ((31 : Int32)) σ r_3 σ_1 hc_2) (cwV 3 ht gi_Mo_80 rfl rfl rfl (by decide +kernel) ⟨Nat.le_of_ble_eq_true rfl, Nat.le_of_ble_eq_true rfl⟩) (gx_preV G hI cl_Mo (by decide)) rfl rfl hl.1 rfl (lv_room (Nat.le_of_ble_eq_true rfl)) d_Mo_key_5 ⟨Nat.zero_le _, Nat.zero_le _⟩) hI (st1 := [.int r_3]) rfl (fun H locs hI => ?_)
  refine lv_if_eq (tgt := 13) hx hb d_Mo_key_8 (by decide) (fun c_4 => ?_) (fun c_4 => ?_)
  · replace hf := (if_pos c_4).symm.trans hf
    refine lv_aload_n hx hb d_Mo_key_13 rfl (lv_at hl 0 rfl) ?_
    refine lv_iload_n hx hb d_Mo_key_14 rfl (lv_at hl 1 rfl) ?_
    obtain ⟨σ_5, eσ_5, hf⟩ := gx_lte hf
    refine gx_put G hI hA cl_Mo (by decide) 8 (by decide) (by decide) fl_Mo_32 rfl rfl rfl eσ_5 d_Mo_key_15 (fun H locs hI => ?_)
    refine lv_iconst (v := 0) hx hb d_Mo_key_18 (by decide) ?_
    cases hf
    exact W.iret hx hb hr (gx_F hI) hI.2.2.2 d_Mo_key_19
  · replace hf := (if_neg c_4).symm.trans hf
    refine lv_iconst (v := (-1)) hx hb d_Mo_key_11 (by decide) ?_
    cases hf
    exact W.iret hx hb hr (gx_F hI) hI.2.2.2 d_Mo_key_12
def fn_Mo_submit (N : Nat) (p0 : Int32) (p1 : Int32) (p2 : Int32) (p3 : Int32) (p4 : Int32) (σ : gx_M) : Option (Int32 × gx_M) := gx_bd (fn_Mo_out N p0 ((0 : Int32)) ((3 : Int32)) σ) (fun r_3 σ_1 => if r_3 = 0 then (gx_bd (fn_Mo_out N p1 ((0 : Int32)) ((9 : Int32)) σ_1) (fun r_7 σ_5 => if r_7 = 0 then (gx_bd (fn_Mo_out N p2 ((0 : Int32)) ((1000 : Int32)) σ_5) (fun r_11 σ_9 => if r_11 = 0 then (gx_bd (fn_Mo_out N p3 ((0 : Int32)) ((5 : Int32)) σ_9) (fun r_15 σ_13 => if r_15 = 0 then (gx_bd (fn_Mo_out N p4 ((1 : Int32)) ((50 : Int32)) σ_13) (fun r_19 σ_17 => if r_19 = 0 then (gx_bd (fn_Mo_keyTaken N (σ_17 722 8) σ_17) (fun r_23 σ_21 => if r_23 = 0 then (if (σ_21 722 9) = ((40 : Int32)) then (some ((-2 : Int32), σ_21)) else (gx_bd (fn_Mo_make N p0 p1 p3 p4 (σ_21 722 8) σ_21) (fun r_28 σ_26 => gx_lt (gx_up σ_26 722 8 ((-1 : Int32))) (fun σ_29 => if p2 = 0 then (gx_bv (fn_Mo_ready N r_28 σ_29) (fun σ_35 => gx_bv (fn_Mo_set N r_28 ((10 : Int32)) ((σ_35 722 1) + p2) σ_35) (fun σ_37 => gx_bv (fn_Mo_note N σ_37) (fun σ_39 => some (r_28, σ_39))))) else (gx_bv (fn_Mo_set N r_28 ((10 : Int32)) ((σ_29 722 1) + p2) σ_29) (fun σ_31 => gx_bv (fn_Mo_note N σ_31) (fun σ_33 => some (r_28, σ_33)))))))) else (some ((-3 : Int32), σ_21)))) else (some ((-1 : Int32), σ_17)))) else (some ((-1 : Int32), σ_13)))) else (some ((-1 : Int32), σ_9)))) else (some ((-1 : Int32), σ_5)))) else (some ((-1 : Int32), σ_1)))
set_option maxHeartbeats 4000000 in
set_option maxRecDepth 100000 in
theorem ct_Mo_submit (l : Launch) (D : va_G) (dA : Nat → ClassId) (adr : Nat → Nat) (A : Nat → Prop) (hA : gx_A A adr) (N : Nat) (p0 : Int32) (p1 : Int32) (p2 : Int32) (p3 : Int32) (p4 : Int32) (σ : gx_M) (r : Int32) (σ' : gx_M) (hf : fn_Mo_submit N p0 p1 p2 p3 p4 σ = some (r, σ')) : Met l y_Mo_submit w_Mo_submit rm_Mo_submit (gx_Pc D dA adr σ [.ref (adr 722), .int p0, .int p1, .int p2, .int p3, .int p4]) (gx_Q D dA adr A (some (.int r)) σ') 0 0 A := by
  refine Met.ofW (cc := b_Mo_submit) (maxL := 7) (ret := some .int) (by decide) rfl ?_
  intro p e s m args below meth c s₁ B hml hv
  obtain ⟨rfl, hP, hK⟩ := hv
  have hx := B.exec
  have hb := B.bytes
  have hr := B.returns
  have hlocks := B.notSynchronized
  have ht : ∀ w ∈ gx_tb, w.before _ s = true := fun w h => atoms_spec (ws := w_Mo_submit) B.pre w (List.mem_cons_of_mem _ h)
  have hown : s.vm.findClass R_Mo = some m.cls := findClass_of_methodNamed B.named
  have G : gx_G p m c b_Mo_submit 7 s _ gx_tb R_Mo D dA := ⟨⟨hx, hb, hml, hown, ht⟩, hK⟩
  have hI : gx_I D dA adr A s.heap σ s.heap [] := ⟨hP, va_S.rf⟩
  have hl := lv_entry ([.ref (adr 722), .int p0, .int p1, .int p2, .int p3, .int p4]) (n := 7) (Nat.le_of_ble_eq_true rfl)
  rw [lg_entry_eq]
  generalize (lg_sl ([.ref (adr 722), .int p0, .int p1, .int p2, .int p3, .int p4]) ++ List.replicate (7 - (lg_sl ([.ref (adr 722), .int p0, .int p1, .int p2, .int p3, .int p4])).length) Slot.unset).toArray = ls at hl ⊢
  have hl : lv_has ls 7 [(0, .ref (adr 722)), (1, .int p0), (2, .int p1), (3, .int p2), (4, .int p3), (5, .int p4)] := hl
  rw [fn_Mo_submit] at hf
  refine lv_aload_n hx hb d_Mo_submit_0 rfl (lv_at hl 0 rfl) ?_
  refine lv_iload_n hx hb d_Mo_submit_1 rfl (lv_at hl 1 rfl) ?_
  refine lv_iconst (v := 0) hx hb d_Mo_submit_2 (by decide) ?_
  refine lv_iconst (v := 3) hx hb d_Mo_submit_3 (by decide) ?_
  obtain ⟨r_3, σ_1, hc_2, hf⟩ := gx_bde hf
  refine gx_go (va_runV (As := [.int p0, .int ((0 : Int32)), .int ((3 : Int32))]) (rest := []) G.1 (ct_Mo_out l D dA adr A hA N p0 ((0 : Int32)) ((3 : Int32)) σ r_3 σ_1 hc_2) (cwV 3 ht gi_Mo_80 rfl rfl rfl (by decide +kernel) ⟨Nat.le_of_ble_eq_true rfl, Nat.le_of_ble_eq_true rfl⟩) (gx_preV G hI cl_Mo (by decide)) rfl rfl hl.1 rfl (lv_room (Nat.le_of_ble_eq_true rfl)) d_Mo_submit_4 ⟨Nat.zero_le _, Nat.zero_le _⟩) hI (st1 := [.int r_3]) rfl (fun H locs hI => ?_)
  refine lv_if_ne (tgt := 56) hx hb d_Mo_submit_7 (by decide) (fun c_4 => ?_) (fun c_4 => ?_)
  · replace hf := (if_neg c_4).symm.trans hf
    refine lv_iconst (v := (-1)) hx hb d_Mo_submit_56 (by decide) ?_
    cases hf
    exact W.iret hx hb hr (gx_F hI) hI.2.2.2 d_Mo_submit_57
  · replace hf := (if_pos c_4).symm.trans hf
    refine lv_aload_n hx hb d_Mo_submit_10 rfl (lv_at hl 0 rfl) ?_
    refine lv_iload_n hx hb d_Mo_submit_11 rfl (lv_at hl 2 rfl) ?_
    refine lv_iconst (v := 0) hx hb d_Mo_submit_12 (by decide) ?_
    refine lv_bipush (v := 9) hx hb d_Mo_submit_13 (by decide) ?_
    obtain ⟨r_7, σ_5, hc_6, hf⟩ := gx_bde hf
    refine gx_go (va_runV (As := [.int p1, .int ((0 : Int32)), .int ((9 : Int32))]) (rest := []) G.1 (ct_Mo_out l D dA adr A hA N p1 ((0 : Int32)) ((9 : Int32)) σ_1 r_7 σ_5 hc_6) (cwV 3 ht gi_Mo_80 rfl rfl rfl (by decide +kernel) ⟨Nat.le_of_ble_eq_true rfl, Nat.le_of_ble_eq_true rfl⟩) (gx_preV G hI cl_Mo (by decide)) rfl rfl hl.1 rfl (lv_room (Nat.le_of_ble_eq_true rfl)) d_Mo_submit_15 ⟨Nat.zero_le _, Nat.zero_le _⟩) hI (st1 := [.int r_7]) rfl (fun H locs hI => ?_)
    refine lv_if_ne (tgt := 56) hx hb d_Mo_submit_18 (by decide) (fun c_8 => ?_) (fun c_8 => ?_)
    · replace hf := (if_neg c_8).symm.trans hf
      refine lv_iconst (v := (-1)) hx hb d_Mo_submit_56 (by decide) ?_
      cases hf
      exact W.iret hx hb hr (gx_F hI) hI.2.2.2 d_Mo_submit_57
    · replace hf := (if_pos c_8).symm.trans hf
      refine lv_aload_n hx hb d_Mo_submit_21 rfl (lv_at hl 0 rfl) ?_
      refine lv_iload_n hx hb d_Mo_submit_22 rfl (lv_at hl 3 rfl) ?_
      refine lv_iconst (v := 0) hx hb d_Mo_submit_23 (by decide) ?_
      refine lv_sipush (v := 1000) hx hb d_Mo_submit_24 (by decide) ?_
      obtain ⟨r_11, σ_9, hc_10, hf⟩ := gx_bde hf
      refine gx_go (va_runV (As := [.int p2, .int ((0 : Int32)), .int ((1000 : Int32))]) (rest := []) G.1 (ct_Mo_out l D dA adr A hA N p2 ((0 : Int32)) ((1000 : Int32)) σ_5 r_11 σ_9 hc_10) (cwV 3 ht gi_Mo_80 rfl rfl rfl (by decide +kernel) ⟨Nat.le_of_ble_eq_true rfl, Nat.le_of_ble_eq_true rfl⟩) (gx_preV G hI cl_Mo (by decide)) rfl rfl hl.1 rfl (lv_room (Nat.le_of_ble_eq_true rfl)) d_Mo_submit_27 ⟨Nat.zero_le _, Nat.zero_le _⟩) hI (st1 := [.int r_11]) rfl (fun H locs hI => ?_)
      refine lv_if_ne (tgt := 56) hx hb d_Mo_submit_30 (by decide) (fun c_12 => ?_) (fun c_12 => ?_)
      · replace hf := (if_neg c_12).symm.trans hf
        refine lv_iconst (v := (-1)) hx hb d_Mo_submit_56 (by decide) ?_
        cases hf
        exact W.iret hx hb hr (gx_F hI) hI.2.2.2 d_Mo_submit_57
      · replace hf := (if_pos c_12).symm.trans hf
        refine lv_aload_n hx hb d_Mo_submit_33 rfl (lv_at hl 0 rfl) ?_
        refine lv_iload hx hb d_Mo_submit_34 (lv_at hl 4 rfl) ?_
        refine lv_iconst (v := 0) hx hb d_Mo_submit_36 (by decide) ?_
        refine lv_iconst (v := 5) hx hb d_Mo_submit_37 (by decide) ?_
        obtain ⟨r_15, σ_13, hc_14, hf⟩ := gx_bde hf
        refine gx_go (va_runV (As := [.int p3, .int ((0 : Int32)), .int ((5 : Int32))]) (rest := []) G.1 (ct_Mo_out l D dA adr A hA N p3 ((0 : Int32)) ((5 : Int32)) σ_9 r_15 σ_13 hc_14) (cwV 3 ht gi_Mo_80 rfl rfl rfl (by decide +kernel) ⟨Nat.le_of_ble_eq_true rfl, Nat.le_of_ble_eq_true rfl⟩) (gx_preV G hI cl_Mo (by decide)) rfl rfl hl.1 rfl (lv_room (Nat.le_of_ble_eq_true rfl)) d_Mo_submit_38 ⟨Nat.zero_le _, Nat.zero_le _⟩) hI (st1 := [.int r_15]) rfl (fun H locs hI => ?_)
        refine lv_if_ne (tgt := 56) hx hb d_Mo_submit_41 (by decide) (fun c_16 => ?_) (fun c_16 => ?_)
        · replace hf := (if_neg c_16).symm.trans hf
          refine lv_iconst (v := (-1)) hx hb d_Mo_submit_56 (by decide) ?_
          cases hf
          exact W.iret hx hb hr (gx_F hI) hI.2.2.2 d_Mo_submit_57
        · replace hf := (if_pos c_16).symm.trans hf
          refine lv_aload_n hx hb d_Mo_submit_44 rfl (lv_at hl 0 rfl) ?_
          refine lv_iload hx hb d_Mo_submit_45 (lv_at hl 5 rfl) ?_
          refine lv_iconst (v := 1) hx hb d_Mo_submit_47 (by decide) ?_
          refine lv_bipush (v := 50) hx hb d_Mo_submit_48 (by decide) ?_
          obtain ⟨r_19, σ_17, hc_18, hf⟩ := gx_bde hf
          refine gx_go (va_runV (As := [.int p4, .int ((1 : Int32)), .int ((50 : Int32))]) (rest := []) G.1 (ct_Mo_out l D dA adr A hA N p4 ((1 : Int32)) ((50 : Int32)) σ_13 r_19 σ_17 hc_18) (cwV 3 ht gi_Mo_80 rfl rfl rfl (by decide +kernel) ⟨Nat.le_of_ble_eq_true rfl, Nat.le_of_ble_eq_true rfl⟩) (gx_preV G hI cl_Mo (by decide)) rfl rfl hl.1 rfl (lv_room (Nat.le_of_ble_eq_true rfl)) d_Mo_submit_50 ⟨Nat.zero_le _, Nat.zero_le _⟩) hI (st1 := [.int r_19]) rfl (fun H locs hI => ?_)
          refine lv_if_eq (tgt := 58) hx hb d_Mo_submit_53 (by decide) (fun c_20 => ?_) (fun c_20 => ?_)
          · replace hf := (if_pos c_20).symm.trans hf
            refine lv_aload_n hx hb d_Mo_submit_58 rfl (lv_at hl 0 rfl) ?_
            refine lv_aload_n hx hb d_Mo_submit_59 rfl (lv_at hl 0 rfl) ?_
            refine gx_getI G hI cl_Mo (by decide) 8 (by decide) (by decide) fl_Mo_32 d_Mo_submit_60 ?_
            obtain ⟨r_23, σ_21, hc_22, hf⟩ := gx_bde hf
            refine gx_go (va_runV (As := [.int (σ_17 722 8)]) (rest := []) G.1 (ct_Mo_keyTaken l D dA adr A hA N (σ_17 722 8) σ_17 r_23 σ_21 hc_22) (cwV 1 ht gi_Mo_84 rfl rfl rfl (by decide +kernel) ⟨Nat.le_of_ble_eq_true rfl, Nat.le_of_ble_eq_true rfl⟩) (gx_preV G hI cl_Mo (by decide)) rfl rfl hl.1 rfl (lv_room (Nat.le_of_ble_eq_true rfl)) d_Mo_submit_63 ⟨Nat.zero_le _, Nat.zero_le _⟩) hI (st1 := [.int r_23]) rfl (fun H locs hI => ?_)
            refine lv_if_eq (tgt := 72) hx hb d_Mo_submit_66 (by decide) (fun c_24 => ?_) (fun c_24 => ?_)
            · replace hf := (if_pos c_24).symm.trans hf
              refine lv_aload_n hx hb d_Mo_submit_72 rfl (lv_at hl 0 rfl) ?_
              refine gx_getI G hI cl_Mo (by decide) 9 (by decide) (by decide) fl_Mo_35 d_Mo_submit_73 ?_
              refine lv_bipush (v := 40) hx hb d_Mo_submit_76 (by decide) ?_
              refine lv_icmp_ne (tgt := 84) hx hb d_Mo_submit_78 (by decide) (fun c_25 => ?_) (fun c_25 => ?_)
              · replace hf := (if_neg c_25).symm.trans hf
                refine lv_aload_n hx hb d_Mo_submit_84 rfl (lv_at hl 0 rfl) ?_
                refine lv_iload_n hx hb d_Mo_submit_85 rfl (lv_at hl 1 rfl) ?_
                refine lv_iload_n hx hb d_Mo_submit_86 rfl (lv_at hl 2 rfl) ?_
                refine lv_iload hx hb d_Mo_submit_87 (lv_at hl 4 rfl) ?_
                refine lv_iload hx hb d_Mo_submit_89 (lv_at hl 5 rfl) ?_
                refine lv_aload_n hx hb d_Mo_submit_91 rfl (lv_at hl 0 rfl) ?_
                refine gx_getI G hI cl_Mo (by decide) 8 (by decide) (by decide) fl_Mo_32 d_Mo_submit_92 ?_
                obtain ⟨r_28, σ_26, hc_27, hf⟩ := gx_bde hf
                refine gx_go (va_runV (As := [.int p0, .int p1, .int p3, .int p4, .int (σ_21 722 8)]) (rest := []) G.1 (ct_Mo_make l D dA adr A hA N p0 p1 p3 p4 (σ_21 722 8) σ_21 r_28 σ_26 hc_27) (cwV 5 ht gi_Mo_87 rfl rfl rfl (by decide +kernel) ⟨Nat.le_of_ble_eq_true rfl, Nat.le_of_ble_eq_true rfl⟩) (gx_preV G hI cl_Mo (by decide)) rfl rfl hl.1 rfl (lv_room (Nat.le_of_ble_eq_true rfl)) d_Mo_submit_95 ⟨Nat.zero_le _, Nat.zero_le _⟩) hI (st1 := [.int r_28]) rfl (fun H locs hI => ?_)
                refine lv_istore (i := 6) (lv' := [(6, .int r_28), (0, .ref (adr 722)), (1, .int p0), (2, .int p1), (3, .int p2), (4, .int p3), (5, .int p4)]) hx hb d_Mo_submit_98 hl (by decide) rfl (fun ls hl => ?_)
                refine lv_aload_n hx hb d_Mo_submit_100 rfl (lv_at hl 1 rfl) ?_
                refine lv_iconst (v := (-1)) hx hb d_Mo_submit_101 (by decide) ?_
                obtain ⟨σ_29, eσ_29, hf⟩ := gx_lte hf
                refine gx_put G hI hA cl_Mo (by decide) 8 (by decide) (by decide) fl_Mo_32 rfl rfl rfl eσ_29 d_Mo_submit_102 (fun H locs hI => ?_)
                refine lv_iload_n hx hb d_Mo_submit_105 rfl (lv_at hl 4 rfl) ?_
                refine lv_if_ne (tgt := 115) hx hb d_Mo_submit_106 (by decide) (fun c_30 => ?_) (fun c_30 => ?_)
                · replace hf := (if_neg c_30).symm.trans hf
                  refine lv_aload_n hx hb d_Mo_submit_115 rfl (lv_at hl 1 rfl) ?_
                  refine lv_iload hx hb d_Mo_submit_116 (lv_at hl 0 rfl) ?_
                  refine lv_bipush (v := 10) hx hb d_Mo_submit_118 (by decide) ?_
                  refine lv_aload_n hx hb d_Mo_submit_120 rfl (lv_at hl 1 rfl) ?_
                  refine gx_getI G hI cl_Mo (by decide) 1 (by decide) (by decide) fl_Mo_7 d_Mo_submit_121 ?_
                  refine lv_iload_n hx hb d_Mo_submit_124 rfl (lv_at hl 4 rfl) ?_
                  refine lv_iadd hx hb d_Mo_submit_125 ?_
                  obtain ⟨σ_31, hc_32, hf⟩ := gx_bve hf
                  refine gx_go (va_runV (As := [.int r_28, .int ((10 : Int32)), .int ((σ_29 722 1) + p2)]) (rest := []) G.1 (ct_Mo_set l D dA adr A hA N r_28 ((10 : Int32)) ((σ_29 722 1) + p2) σ_29 σ_31 hc_32) (cwV 3 ht gi_Mo_69 rfl rfl rfl (by decide +kernel) ⟨Nat.le_of_ble_eq_true rfl, Nat.le_of_ble_eq_true rfl⟩) (gx_preV G hI cl_Mo (by decide)) rfl rfl hl.1 rfl (lv_room (Nat.le_of_ble_eq_true rfl)) d_Mo_submit_126 ⟨Nat.zero_le _, Nat.zero_le _⟩) hI (st1 := []) rfl (fun H locs hI => ?_)
                  refine lv_aload_n hx hb d_Mo_submit_129 rfl (lv_at hl 1 rfl) ?_
                  obtain ⟨σ_33, hc_34, hf⟩ := gx_bve hf
                  refine gx_go (va_runV (As := []) (rest := []) G.1 (ct_Mo_note l D dA adr A hA N σ_31 σ_33 hc_34) (cwV 0 ht gi_Mo_94 rfl rfl rfl (by decide +kernel) ⟨Nat.le_of_ble_eq_true rfl, Nat.le_of_ble_eq_true rfl⟩) (gx_preV G hI cl_Mo (by decide)) rfl rfl hl.1 rfl (lv_room (Nat.le_of_ble_eq_true rfl)) d_Mo_submit_130 ⟨Nat.zero_le _, Nat.zero_le _⟩) hI (st1 := []) rfl (fun H locs hI => ?_)
                  refine lv_iload hx hb d_Mo_submit_133 (lv_at hl 0 rfl) ?_
                  cases hf
                  exact W.iret hx hb hr (gx_F hI) hI.2.2.2 d_Mo_submit_135
                · replace hf := (if_pos c_30).symm.trans hf
                  refine lv_aload_n hx hb d_Mo_submit_109 rfl (lv_at hl 1 rfl) ?_
                  refine lv_iload hx hb d_Mo_submit_110 (lv_at hl 0 rfl) ?_
                  obtain ⟨σ_35, hc_36, hf⟩ := gx_bve hf
                  refine gx_go (va_runV (As := [.int r_28]) (rest := []) G.1 (ct_Mo_ready l D dA adr A hA N r_28 σ_29 σ_35 hc_36) (cwV 1 ht gi_Mo_91 rfl rfl rfl (by decide +kernel) ⟨Nat.le_of_ble_eq_true rfl, Nat.le_of_ble_eq_true rfl⟩) (gx_preV G hI cl_Mo (by decide)) rfl rfl hl.1 rfl (lv_room (Nat.le_of_ble_eq_true rfl)) d_Mo_submit_112 ⟨Nat.zero_le _, Nat.zero_le _⟩) hI (st1 := []) rfl (fun H locs hI => ?_)
                  refine lv_aload_n hx hb d_Mo_submit_115 rfl (lv_at hl 1 rfl) ?_
                  refine lv_iload hx hb d_Mo_submit_116 (lv_at hl 0 rfl) ?_
                  refine lv_bipush (v := 10) hx hb d_Mo_submit_118 (by decide) ?_
                  refine lv_aload_n hx hb d_Mo_submit_120 rfl (lv_at hl 1 rfl) ?_
                  refine gx_getI G hI cl_Mo (by decide) 1 (by decide) (by decide) fl_Mo_7 d_Mo_submit_121 ?_
                  refine lv_iload_n hx hb d_Mo_submit_124 rfl (lv_at hl 4 rfl) ?_
                  refine lv_iadd hx hb d_Mo_submit_125 ?_
                  obtain ⟨σ_37, hc_38, hf⟩ := gx_bve hf
                  refine gx_go (va_runV (As := [.int r_28, .int ((10 : Int32)), .int ((σ_35 722 1) + p2)]) (rest := []) G.1 (ct_Mo_set l D dA adr A hA N r_28 ((10 : Int32)) ((σ_35 722 1) + p2) σ_35 σ_37 hc_38) (cwV 3 ht gi_Mo_69 rfl rfl rfl (by decide +kernel) ⟨Nat.le_of_ble_eq_true rfl, Nat.le_of_ble_eq_true rfl⟩) (gx_preV G hI cl_Mo (by decide)) rfl rfl hl.1 rfl (lv_room (Nat.le_of_ble_eq_true rfl)) d_Mo_submit_126 ⟨Nat.zero_le _, Nat.zero_le _⟩) hI (st1 := []) rfl (fun H locs hI => ?_)
                  refine lv_aload_n hx hb d_Mo_submit_129 rfl (lv_at hl 1 rfl) ?_
                  obtain ⟨σ_39, hc_40, hf⟩ := gx_bve hf
                  refine gx_go (va_runV (As := []) (rest := []) G.1 (ct_Mo_note l D dA adr A hA N σ_37 σ_39 hc_40) (cwV 0 ht gi_Mo_94 rfl rfl rfl (by decide +kernel) ⟨Nat.le_of_ble_eq_true rfl, Nat.le_of_ble_eq_true rfl⟩) (gx_preV G hI cl_Mo (by decide)) rfl rfl hl.1 rfl (lv_room (Nat.le_of_ble_eq_true rfl)) d_Mo_submit_130 ⟨Nat.zero_le _, Nat.zero_le _⟩) hI (st1 := []) rfl (fun H locs hI => ?_)
                  refine lv_iload hx hb d_Mo_submit_133 (lv_at hl 0 rfl) ?_
                  cases hf
                  exact W.iret hx hb hr (gx_F hI) hI.2.2.2 d_Mo_submit_135
              · replace hf := (if_pos c_25).symm.trans hf
                refine lv_bipush (v := (-2)) hx hb d_Mo_submit_81 (by decide) ?_
                cases hf
                exact W.iret hx hb hr (gx_F hI) hI.2.2.2 d_Mo_submit_83
            · replace hf := (if_neg c_24).symm.trans hf
              refine lv_bipush (v := (-3)) hx hb d_Mo_submit_69 (by decide) ?_
              cases hf
              exact W.iret hx hb hr (gx_F hI) hI.2.2.2 d_Mo_submit_71
          · replace hf := (if_neg c_20).symm.trans hf
            refine lv_iconst (v := (-1)) hx hb d_Mo_submit_56 (by decide) ?_
            cases hf
            exact W.iret hx hb hr (gx_F hI) hI.2.2.2 d_Mo_submit_57
def fn_Mo_hold (N : Nat) (p0 : Int32) (p1 : Int32) (σ : gx_M) : Option (Int32 × gx_M) := gx_bd (fn_Mo_out N p0 ((0 : Int32)) ((3 : Int32)) σ) (fun r_3 σ_1 => if r_3 = 0 then (gx_bd (fn_Mo_out N p1 ((0 : Int32)) ((9 : Int32)) σ_1) (fun r_7 σ_5 => if r_7 = 0 then (if (σ_5 722 9) = ((40 : Int32)) then (some ((-2 : Int32), σ_5)) else (gx_bd (fn_Mo_make N p0 p1 ((0 : Int32)) ((1 : Int32)) ((-1 : Int32)) σ_5) (fun r_12 σ_10 => gx_bv (fn_Mo_set N r_12 ((9 : Int32)) ((6 : Int32)) σ_10) (fun σ_13 => gx_bv (fn_Mo_note N σ_13) (fun σ_15 => some (r_12, σ_15)))))) else (some ((-1 : Int32), σ_5)))) else (some ((-1 : Int32), σ_1)))
set_option maxHeartbeats 4000000 in
set_option maxRecDepth 100000 in
theorem ct_Mo_hold (l : Launch) (D : va_G) (dA : Nat → ClassId) (adr : Nat → Nat) (A : Nat → Prop) (hA : gx_A A adr) (N : Nat) (p0 : Int32) (p1 : Int32) (σ : gx_M) (r : Int32) (σ' : gx_M) (hf : fn_Mo_hold N p0 p1 σ = some (r, σ')) : Met l y_Mo_hold w_Mo_hold rm_Mo_hold (gx_Pc D dA adr σ [.ref (adr 722), .int p0, .int p1]) (gx_Q D dA adr A (some (.int r)) σ') 0 0 A := by
  refine Met.ofW (cc := b_Mo_hold) (maxL := 4) (ret := some .int) (by decide) rfl ?_
  intro p e s m args below meth c s₁ B hml hv
  obtain ⟨rfl, hP, hK⟩ := hv
  have hx := B.exec
  have hb := B.bytes
  have hr := B.returns
  have hlocks := B.notSynchronized
  have ht : ∀ w ∈ gx_tb, w.before _ s = true := fun w h => atoms_spec (ws := w_Mo_hold) B.pre w (List.mem_cons_of_mem _ h)
  have hown : s.vm.findClass R_Mo = some m.cls := findClass_of_methodNamed B.named
  have G : gx_G p m c b_Mo_hold 4 s _ gx_tb R_Mo D dA := ⟨⟨hx, hb, hml, hown, ht⟩, hK⟩
  have hI : gx_I D dA adr A s.heap σ s.heap [] := ⟨hP, va_S.rf⟩
  have hl := lv_entry ([.ref (adr 722), .int p0, .int p1]) (n := 4) (Nat.le_of_ble_eq_true rfl)
  rw [lg_entry_eq]
  generalize (lg_sl ([.ref (adr 722), .int p0, .int p1]) ++ List.replicate (4 - (lg_sl ([.ref (adr 722), .int p0, .int p1])).length) Slot.unset).toArray = ls at hl ⊢
  have hl : lv_has ls 4 [(0, .ref (adr 722)), (1, .int p0), (2, .int p1)] := hl
  rw [fn_Mo_hold] at hf
  refine lv_aload_n hx hb d_Mo_hold_0 rfl (lv_at hl 0 rfl) ?_
  refine lv_iload_n hx hb d_Mo_hold_1 rfl (lv_at hl 1 rfl) ?_
  refine lv_iconst (v := 0) hx hb d_Mo_hold_2 (by decide) ?_
  refine lv_iconst (v := 3) hx hb d_Mo_hold_3 (by decide) ?_
  obtain ⟨r_3, σ_1, hc_2, hf⟩ := gx_bde hf
  refine gx_go (va_runV (As := [.int p0, .int ((0 : Int32)), .int ((3 : Int32))]) (rest := []) G.1 (ct_Mo_out l D dA adr A hA N p0 ((0 : Int32)) ((3 : Int32)) σ r_3 σ_1 hc_2) (cwV 3 ht gi_Mo_80 rfl rfl rfl (by decide +kernel) ⟨Nat.le_of_ble_eq_true rfl, Nat.le_of_ble_eq_true rfl⟩) (gx_preV G hI cl_Mo (by decide)) rfl rfl hl.1 rfl (lv_room (Nat.le_of_ble_eq_true rfl)) d_Mo_hold_4 ⟨Nat.zero_le _, Nat.zero_le _⟩) hI (st1 := [.int r_3]) rfl (fun H locs hI => ?_)
  refine lv_if_ne (tgt := 21) hx hb d_Mo_hold_7 (by decide) (fun c_4 => ?_) (fun c_4 => ?_)
  · replace hf := (if_neg c_4).symm.trans hf
    refine lv_iconst (v := (-1)) hx hb d_Mo_hold_21 (by decide) ?_
    cases hf
    exact W.iret hx hb hr (gx_F hI) hI.2.2.2 d_Mo_hold_22
  · replace hf := (if_pos c_4).symm.trans hf
    refine lv_aload_n hx hb d_Mo_hold_10 rfl (lv_at hl 0 rfl) ?_
    refine lv_iload_n hx hb d_Mo_hold_11 rfl (lv_at hl 2 rfl) ?_
    refine lv_iconst (v := 0) hx hb d_Mo_hold_12 (by decide) ?_
    refine lv_bipush (v := 9) hx hb d_Mo_hold_13 (by decide) ?_
    obtain ⟨r_7, σ_5, hc_6, hf⟩ := gx_bde hf
    refine gx_go (va_runV (As := [.int p1, .int ((0 : Int32)), .int ((9 : Int32))]) (rest := []) G.1 (ct_Mo_out l D dA adr A hA N p1 ((0 : Int32)) ((9 : Int32)) σ_1 r_7 σ_5 hc_6) (cwV 3 ht gi_Mo_80 rfl rfl rfl (by decide +kernel) ⟨Nat.le_of_ble_eq_true rfl, Nat.le_of_ble_eq_true rfl⟩) (gx_preV G hI cl_Mo (by decide)) rfl rfl hl.1 rfl (lv_room (Nat.le_of_ble_eq_true rfl)) d_Mo_hold_15 ⟨Nat.zero_le _, Nat.zero_le _⟩) hI (st1 := [.int r_7]) rfl (fun H locs hI => ?_)
    refine lv_if_eq (tgt := 23) hx hb d_Mo_hold_18 (by decide) (fun c_8 => ?_) (fun c_8 => ?_)
    · replace hf := (if_pos c_8).symm.trans hf
      refine lv_aload_n hx hb d_Mo_hold_23 rfl (lv_at hl 0 rfl) ?_
      refine gx_getI G hI cl_Mo (by decide) 9 (by decide) (by decide) fl_Mo_35 d_Mo_hold_24 ?_
      refine lv_bipush (v := 40) hx hb d_Mo_hold_27 (by decide) ?_
      refine lv_icmp_ne (tgt := 35) hx hb d_Mo_hold_29 (by decide) (fun c_9 => ?_) (fun c_9 => ?_)
      · replace hf := (if_neg c_9).symm.trans hf
        refine lv_aload_n hx hb d_Mo_hold_35 rfl (lv_at hl 0 rfl) ?_
        refine lv_iload_n hx hb d_Mo_hold_36 rfl (lv_at hl 1 rfl) ?_
        refine lv_iload_n hx hb d_Mo_hold_37 rfl (lv_at hl 2 rfl) ?_
        refine lv_iconst (v := 0) hx hb d_Mo_hold_38 (by decide) ?_
        refine lv_iconst (v := 1) hx hb d_Mo_hold_39 (by decide) ?_
        refine lv_iconst (v := (-1)) hx hb d_Mo_hold_40 (by decide) ?_
        obtain ⟨r_12, σ_10, hc_11, hf⟩ := gx_bde hf
        refine gx_go (va_runV (As := [.int p0, .int p1, .int ((0 : Int32)), .int ((1 : Int32)), .int ((-1 : Int32))]) (rest := []) G.1 (ct_Mo_make l D dA adr A hA N p0 p1 ((0 : Int32)) ((1 : Int32)) ((-1 : Int32)) σ_5 r_12 σ_10 hc_11) (cwV 5 ht gi_Mo_87 rfl rfl rfl (by decide +kernel) ⟨Nat.le_of_ble_eq_true rfl, Nat.le_of_ble_eq_true rfl⟩) (gx_preV G hI cl_Mo (by decide)) rfl rfl hl.1 rfl (lv_room (Nat.le_of_ble_eq_true rfl)) d_Mo_hold_41 ⟨Nat.zero_le _, Nat.zero_le _⟩) hI (st1 := [.int r_12]) rfl (fun H locs hI => ?_)
        refine lv_istore_n (i := 3) (lv' := [(3, .int r_12), (0, .ref (adr 722)), (1, .int p0), (2, .int p1)]) hx hb d_Mo_hold_44 rfl hl (by decide) rfl (fun ls hl => ?_)
        refine lv_aload_n hx hb d_Mo_hold_45 rfl (lv_at hl 1 rfl) ?_
        refine lv_iload_n hx hb d_Mo_hold_46 rfl (lv_at hl 0 rfl) ?_
        refine lv_bipush (v := 9) hx hb d_Mo_hold_47 (by decide) ?_
        refine lv_bipush (v := 6) hx hb d_Mo_hold_49 (by decide) ?_
        obtain ⟨σ_13, hc_14, hf⟩ := gx_bve hf
        refine gx_go (va_runV (As := [.int r_12, .int ((9 : Int32)), .int ((6 : Int32))]) (rest := []) G.1 (ct_Mo_set l D dA adr A hA N r_12 ((9 : Int32)) ((6 : Int32)) σ_10 σ_13 hc_14) (cwV 3 ht gi_Mo_69 rfl rfl rfl (by decide +kernel) ⟨Nat.le_of_ble_eq_true rfl, Nat.le_of_ble_eq_true rfl⟩) (gx_preV G hI cl_Mo (by decide)) rfl rfl hl.1 rfl (lv_room (Nat.le_of_ble_eq_true rfl)) d_Mo_hold_51 ⟨Nat.zero_le _, Nat.zero_le _⟩) hI (st1 := []) rfl (fun H locs hI => ?_)
        refine lv_aload_n hx hb d_Mo_hold_54 rfl (lv_at hl 1 rfl) ?_
        obtain ⟨σ_15, hc_16, hf⟩ := gx_bve hf
        refine gx_go (va_runV (As := []) (rest := []) G.1 (ct_Mo_note l D dA adr A hA N σ_13 σ_15 hc_16) (cwV 0 ht gi_Mo_94 rfl rfl rfl (by decide +kernel) ⟨Nat.le_of_ble_eq_true rfl, Nat.le_of_ble_eq_true rfl⟩) (gx_preV G hI cl_Mo (by decide)) rfl rfl hl.1 rfl (lv_room (Nat.le_of_ble_eq_true rfl)) d_Mo_hold_55 ⟨Nat.zero_le _, Nat.zero_le _⟩) hI (st1 := []) rfl (fun H locs hI => ?_)
        refine lv_iload_n hx hb d_Mo_hold_58 rfl (lv_at hl 0 rfl) ?_
        cases hf
        exact W.iret hx hb hr (gx_F hI) hI.2.2.2 d_Mo_hold_59
      · replace hf := (if_pos c_9).symm.trans hf
        refine lv_bipush (v := (-2)) hx hb d_Mo_hold_32 (by decide) ?_
        cases hf
        exact W.iret hx hb hr (gx_F hI) hI.2.2.2 d_Mo_hold_34
    · replace hf := (if_neg c_8).symm.trans hf
      refine lv_iconst (v := (-1)) hx hb d_Mo_hold_21 (by decide) ?_
      cases hf
      exact W.iret hx hb hr (gx_F hI) hI.2.2.2 d_Mo_hold_22
def fn_Mo_join (N : Nat) (p0 : Int32) (p1 : Int32) (σ : gx_M) : Option (Int32 × gx_M) := gx_bd (fn_Mo_no N p0 σ) (fun r_3 σ_1 => if r_3 = 0 then (gx_bd (fn_Mo_no N p1 σ_1) (fun r_7 σ_5 => if r_7 = 0 then (gx_bd (fn_Mo_isLive N p0 σ_5) (fun r_11 σ_9 => if r_11 = 0 then (some ((-1 : Int32), σ_9)) else (gx_bd (fn_Mo_of N p0 ((6 : Int32)) σ_9) (fun r_15 σ_13 => if 0 ≤ r_15 then (some ((-1 : Int32), σ_13)) else (gx_bd (fn_Mo_of N p1 ((9 : Int32)) σ_13) (fun r_19 σ_17 => if r_19 = ((6 : Int32)) then (if p0 = p1 then (some ((-1 : Int32), σ_17)) else (gx_bv (fn_Mo_set N p0 ((6 : Int32)) p1 σ_17) (fun σ_22 => gx_bd (fn_Mo_of N p1 ((7 : Int32)) σ_22) (fun r_26 σ_24 => gx_bv (fn_Mo_set N p1 ((7 : Int32)) (r_26 + ((1 : Int32))) σ_24) (fun σ_27 => gx_bv (fn_Mo_note N σ_27) (fun σ_29 => some ((0 : Int32), σ_29))))))) else (some ((-1 : Int32), σ_17)))))))) else (some ((-1 : Int32), σ_5)))) else (some ((-1 : Int32), σ_1)))
set_option maxHeartbeats 4000000 in
set_option maxRecDepth 100000 in
theorem ct_Mo_join (l : Launch) (D : va_G) (dA : Nat → ClassId) (adr : Nat → Nat) (A : Nat → Prop) (hA : gx_A A adr) (N : Nat) (p0 : Int32) (p1 : Int32) (σ : gx_M) (r : Int32) (σ' : gx_M) (hf : fn_Mo_join N p0 p1 σ = some (r, σ')) : Met l y_Mo_join w_Mo_join rm_Mo_join (gx_Pc D dA adr σ [.ref (adr 722), .int p0, .int p1]) (gx_Q D dA adr A (some (.int r)) σ') 0 0 A := by
  refine Met.ofW (cc := b_Mo_join) (maxL := 3) (ret := some .int) (by decide) rfl ?_
  intro p e s m args below meth c s₁ B hml hv
  obtain ⟨rfl, hP, hK⟩ := hv
  have hx := B.exec
  have hb := B.bytes
  have hr := B.returns
  have hlocks := B.notSynchronized
  have ht : ∀ w ∈ gx_tb, w.before _ s = true := fun w h => atoms_spec (ws := w_Mo_join) B.pre w (List.mem_cons_of_mem _ h)
  have hown : s.vm.findClass R_Mo = some m.cls := findClass_of_methodNamed B.named
  have G : gx_G p m c b_Mo_join 3 s _ gx_tb R_Mo D dA := ⟨⟨hx, hb, hml, hown, ht⟩, hK⟩
  have hI : gx_I D dA adr A s.heap σ s.heap [] := ⟨hP, va_S.rf⟩
  have hl := lv_entry ([.ref (adr 722), .int p0, .int p1]) (n := 3) (Nat.le_of_ble_eq_true rfl)
  rw [lg_entry_eq]
  generalize (lg_sl ([.ref (adr 722), .int p0, .int p1]) ++ List.replicate (3 - (lg_sl ([.ref (adr 722), .int p0, .int p1])).length) Slot.unset).toArray = ls at hl ⊢
  have hl : lv_has ls 3 [(0, .ref (adr 722)), (1, .int p0), (2, .int p1)] := hl
  rw [fn_Mo_join] at hf
  refine lv_aload_n hx hb d_Mo_join_0 rfl (lv_at hl 0 rfl) ?_
  refine lv_iload_n hx hb d_Mo_join_1 rfl (lv_at hl 1 rfl) ?_
  obtain ⟨r_3, σ_1, hc_2, hf⟩ := gx_bde hf
  refine gx_go (va_runV (As := [.int p0]) (rest := []) G.1 (ct_Mo_no l D dA adr A hA N p0 σ r_3 σ_1 hc_2) (cwV 1 ht gi_Mo_97 rfl rfl rfl (by decide +kernel) ⟨Nat.le_of_ble_eq_true rfl, Nat.le_of_ble_eq_true rfl⟩) (gx_preV G hI cl_Mo (by decide)) rfl rfl hl.1 rfl (lv_room (Nat.le_of_ble_eq_true rfl)) d_Mo_join_2 ⟨Nat.zero_le _, Nat.zero_le _⟩) hI (st1 := [.int r_3]) rfl (fun H locs hI => ?_)
  refine lv_if_ne (tgt := 51) hx hb d_Mo_join_5 (by decide) (fun c_4 => ?_) (fun c_4 => ?_)
  · replace hf := (if_neg c_4).symm.trans hf
    refine lv_iconst (v := (-1)) hx hb d_Mo_join_51 (by decide) ?_
    cases hf
    exact W.iret hx hb hr (gx_F hI) hI.2.2.2 d_Mo_join_52
  · replace hf := (if_pos c_4).symm.trans hf
    refine lv_aload_n hx hb d_Mo_join_8 rfl (lv_at hl 0 rfl) ?_
    refine lv_iload_n hx hb d_Mo_join_9 rfl (lv_at hl 2 rfl) ?_
    obtain ⟨r_7, σ_5, hc_6, hf⟩ := gx_bde hf
    refine gx_go (va_runV (As := [.int p1]) (rest := []) G.1 (ct_Mo_no l D dA adr A hA N p1 σ_1 r_7 σ_5 hc_6) (cwV 1 ht gi_Mo_97 rfl rfl rfl (by decide +kernel) ⟨Nat.le_of_ble_eq_true rfl, Nat.le_of_ble_eq_true rfl⟩) (gx_preV G hI cl_Mo (by decide)) rfl rfl hl.1 rfl (lv_room (Nat.le_of_ble_eq_true rfl)) d_Mo_join_10 ⟨Nat.zero_le _, Nat.zero_le _⟩) hI (st1 := [.int r_7]) rfl (fun H locs hI => ?_)
    refine lv_if_ne (tgt := 51) hx hb d_Mo_join_13 (by decide) (fun c_8 => ?_) (fun c_8 => ?_)
    · replace hf := (if_neg c_8).symm.trans hf
      refine lv_iconst (v := (-1)) hx hb d_Mo_join_51 (by decide) ?_
      cases hf
      exact W.iret hx hb hr (gx_F hI) hI.2.2.2 d_Mo_join_52
    · replace hf := (if_pos c_8).symm.trans hf
      refine lv_aload_n hx hb d_Mo_join_16 rfl (lv_at hl 0 rfl) ?_
      refine lv_iload_n hx hb d_Mo_join_17 rfl (lv_at hl 1 rfl) ?_
      obtain ⟨r_11, σ_9, hc_10, hf⟩ := gx_bde hf
      refine gx_go (va_runV (As := [.int p0]) (rest := []) G.1 (ct_Mo_isLive l D dA adr A hA N p0 σ_5 r_11 σ_9 hc_10) (cwV 1 ht gi_Mo_76 rfl rfl rfl (by decide +kernel) ⟨Nat.le_of_ble_eq_true rfl, Nat.le_of_ble_eq_true rfl⟩) (gx_preV G hI cl_Mo (by decide)) rfl rfl hl.1 rfl (lv_room (Nat.le_of_ble_eq_true rfl)) d_Mo_join_18 ⟨Nat.zero_le _, Nat.zero_le _⟩) hI (st1 := [.int r_11]) rfl (fun H locs hI => ?_)
      refine lv_if_eq (tgt := 51) hx hb d_Mo_join_21 (by decide) (fun c_12 => ?_) (fun c_12 => ?_)
      · replace hf := (if_pos c_12).symm.trans hf
        refine lv_iconst (v := (-1)) hx hb d_Mo_join_51 (by decide) ?_
        cases hf
        exact W.iret hx hb hr (gx_F hI) hI.2.2.2 d_Mo_join_52
      · replace hf := (if_neg c_12).symm.trans hf
        refine lv_aload_n hx hb d_Mo_join_24 rfl (lv_at hl 0 rfl) ?_
        refine lv_iload_n hx hb d_Mo_join_25 rfl (lv_at hl 1 rfl) ?_
        refine lv_bipush (v := 6) hx hb d_Mo_join_26 (by decide) ?_
        obtain ⟨r_15, σ_13, hc_14, hf⟩ := gx_bde hf
        refine gx_go (va_runV (As := [.int p0, .int ((6 : Int32))]) (rest := []) G.1 (ct_Mo_of l D dA adr A hA N p0 ((6 : Int32)) σ_9 r_15 σ_13 hc_14) (cwV 2 ht gi_Mo_65 rfl rfl rfl (by decide +kernel) ⟨Nat.le_of_ble_eq_true rfl, Nat.le_of_ble_eq_true rfl⟩) (gx_preV G hI cl_Mo (by decide)) rfl rfl hl.1 rfl (lv_room (Nat.le_of_ble_eq_true rfl)) d_Mo_join_28 ⟨Nat.zero_le _, Nat.zero_le _⟩) hI (st1 := [.int r_15]) rfl (fun H locs hI => ?_)
        refine lv_if_ge (tgt := 51) hx hb d_Mo_join_31 (by decide) (fun c_16 => ?_) (fun c_16 => ?_)
        · replace hf := (if_pos c_16).symm.trans hf
          refine lv_iconst (v := (-1)) hx hb d_Mo_join_51 (by decide) ?_
          cases hf
          exact W.iret hx hb hr (gx_F hI) hI.2.2.2 d_Mo_join_52
        · replace hf := (if_neg c_16).symm.trans hf
          refine lv_aload_n hx hb d_Mo_join_34 rfl (lv_at hl 0 rfl) ?_
          refine lv_iload_n hx hb d_Mo_join_35 rfl (lv_at hl 2 rfl) ?_
          refine lv_bipush (v := 9) hx hb d_Mo_join_36 (by decide) ?_
          obtain ⟨r_19, σ_17, hc_18, hf⟩ := gx_bde hf
          refine gx_go (va_runV (As := [.int p1, .int ((9 : Int32))]) (rest := []) G.1 (ct_Mo_of l D dA adr A hA N p1 ((9 : Int32)) σ_13 r_19 σ_17 hc_18) (cwV 2 ht gi_Mo_65 rfl rfl rfl (by decide +kernel) ⟨Nat.le_of_ble_eq_true rfl, Nat.le_of_ble_eq_true rfl⟩) (gx_preV G hI cl_Mo (by decide)) rfl rfl hl.1 rfl (lv_room (Nat.le_of_ble_eq_true rfl)) d_Mo_join_38 ⟨Nat.zero_le _, Nat.zero_le _⟩) hI (st1 := [.int r_19]) rfl (fun H locs hI => ?_)
          refine lv_bipush (v := 6) hx hb d_Mo_join_41 (by decide) ?_
          refine lv_icmp_ne (tgt := 51) hx hb d_Mo_join_43 (by decide) (fun c_20 => ?_) (fun c_20 => ?_)
          · replace hf := (if_neg c_20).symm.trans hf
            refine lv_iconst (v := (-1)) hx hb d_Mo_join_51 (by decide) ?_
            cases hf
            exact W.iret hx hb hr (gx_F hI) hI.2.2.2 d_Mo_join_52
          · replace hf := (if_pos c_20).symm.trans hf
            refine lv_iload_n hx hb d_Mo_join_46 rfl (lv_at hl 1 rfl) ?_
            refine lv_iload_n hx hb d_Mo_join_47 rfl (lv_at hl 2 rfl) ?_
            refine lv_icmp_ne (tgt := 53) hx hb d_Mo_join_48 (by decide) (fun c_21 => ?_) (fun c_21 => ?_)
            · replace hf := (if_neg c_21).symm.trans hf
              refine lv_aload_n hx hb d_Mo_join_53 rfl (lv_at hl 0 rfl) ?_
              refine lv_iload_n hx hb d_Mo_join_54 rfl (lv_at hl 1 rfl) ?_
              refine lv_bipush (v := 6) hx hb d_Mo_join_55 (by decide) ?_
              refine lv_iload_n hx hb d_Mo_join_57 rfl (lv_at hl 2 rfl) ?_
              obtain ⟨σ_22, hc_23, hf⟩ := gx_bve hf
              refine gx_go (va_runV (As := [.int p0, .int ((6 : Int32)), .int p1]) (rest := []) G.1 (ct_Mo_set l D dA adr A hA N p0 ((6 : Int32)) p1 σ_17 σ_22 hc_23) (cwV 3 ht gi_Mo_69 rfl rfl rfl (by decide +kernel) ⟨Nat.le_of_ble_eq_true rfl, Nat.le_of_ble_eq_true rfl⟩) (gx_preV G hI cl_Mo (by decide)) rfl rfl hl.1 rfl (lv_room (Nat.le_of_ble_eq_true rfl)) d_Mo_join_58 ⟨Nat.zero_le _, Nat.zero_le _⟩) hI (st1 := []) rfl (fun H locs hI => ?_)
              refine lv_aload_n hx hb d_Mo_join_61 rfl (lv_at hl 0 rfl) ?_
              refine lv_iload_n hx hb d_Mo_join_62 rfl (lv_at hl 2 rfl) ?_
              refine lv_bipush (v := 7) hx hb d_Mo_join_63 (by decide) ?_
              refine lv_aload_n hx hb d_Mo_join_65 rfl (lv_at hl 0 rfl) ?_
              refine lv_iload_n hx hb d_Mo_join_66 rfl (lv_at hl 2 rfl) ?_
              refine lv_bipush (v := 7) hx hb d_Mo_join_67 (by decide) ?_
              obtain ⟨r_26, σ_24, hc_25, hf⟩ := gx_bde hf
              refine gx_go (va_runV (As := [.int p1, .int ((7 : Int32))]) (rest := [.int ((7 : Int32)), .int p1, .ref (adr 722)]) G.1 (ct_Mo_of l D dA adr A hA N p1 ((7 : Int32)) σ_22 r_26 σ_24 hc_25) (cwV 2 ht gi_Mo_65 rfl rfl rfl (by decide +kernel) ⟨Nat.le_of_ble_eq_true rfl, Nat.le_of_ble_eq_true rfl⟩) (gx_preV G hI cl_Mo (by decide)) rfl rfl hl.1 rfl (lv_room (Nat.le_of_ble_eq_true rfl)) d_Mo_join_69 ⟨Nat.zero_le _, Nat.zero_le _⟩) hI (st1 := [.int r_26, .int ((7 : Int32)), .int p1, .ref (adr 722)]) rfl (fun H locs hI => ?_)
              refine lv_iconst (v := 1) hx hb d_Mo_join_72 (by decide) ?_
              refine lv_iadd hx hb d_Mo_join_73 ?_
              obtain ⟨σ_27, hc_28, hf⟩ := gx_bve hf
              refine gx_go (va_runV (As := [.int p1, .int ((7 : Int32)), .int (r_26 + ((1 : Int32)))]) (rest := []) G.1 (ct_Mo_set l D dA adr A hA N p1 ((7 : Int32)) (r_26 + ((1 : Int32))) σ_24 σ_27 hc_28) (cwV 3 ht gi_Mo_69 rfl rfl rfl (by decide +kernel) ⟨Nat.le_of_ble_eq_true rfl, Nat.le_of_ble_eq_true rfl⟩) (gx_preV G hI cl_Mo (by decide)) rfl rfl hl.1 rfl (lv_room (Nat.le_of_ble_eq_true rfl)) d_Mo_join_74 ⟨Nat.zero_le _, Nat.zero_le _⟩) hI (st1 := []) rfl (fun H locs hI => ?_)
              refine lv_aload_n hx hb d_Mo_join_77 rfl (lv_at hl 0 rfl) ?_
              obtain ⟨σ_29, hc_30, hf⟩ := gx_bve hf
              refine gx_go (va_runV (As := []) (rest := []) G.1 (ct_Mo_note l D dA adr A hA N σ_27 σ_29 hc_30) (cwV 0 ht gi_Mo_94 rfl rfl rfl (by decide +kernel) ⟨Nat.le_of_ble_eq_true rfl, Nat.le_of_ble_eq_true rfl⟩) (gx_preV G hI cl_Mo (by decide)) rfl rfl hl.1 rfl (lv_room (Nat.le_of_ble_eq_true rfl)) d_Mo_join_78 ⟨Nat.zero_le _, Nat.zero_le _⟩) hI (st1 := []) rfl (fun H locs hI => ?_)
              refine lv_iconst (v := 0) hx hb d_Mo_join_81 (by decide) ?_
              cases hf
              exact W.iret hx hb hr (gx_F hI) hI.2.2.2 d_Mo_join_82
            · replace hf := (if_pos c_21).symm.trans hf
              refine lv_iconst (v := (-1)) hx hb d_Mo_join_51 (by decide) ?_
              cases hf
              exact W.iret hx hb hr (gx_F hI) hI.2.2.2 d_Mo_join_52
def fn_Mo_seal (N : Nat) (p0 : Int32) (σ : gx_M) : Option (Int32 × gx_M) := gx_bd (fn_Mo_no N p0 σ) (fun r_3 σ_1 => if r_3 = 0 then (gx_bd (fn_Mo_of N p0 ((9 : Int32)) σ_1) (fun r_7 σ_5 => if r_7 = ((6 : Int32)) then (gx_bd (fn_Mo_of N p0 ((8 : Int32)) σ_5) (fun r_11 σ_9 => if r_11 = ((1 : Int32)) then (some ((-1 : Int32), σ_9)) else (gx_bv (fn_Mo_set N p0 ((8 : Int32)) ((1 : Int32)) σ_9) (fun σ_13 => gx_bd (fn_Mo_of N p0 ((7 : Int32)) σ_13) (fun r_17 σ_15 => if r_17 = 0 then (gx_bv (fn_Mo_ready N p0 σ_15) (fun σ_21 => gx_bv (fn_Mo_note N σ_21) (fun σ_23 => some ((0 : Int32), σ_23)))) else (gx_bv (fn_Mo_note N σ_15) (fun σ_19 => some ((0 : Int32), σ_19)))))))) else (some ((-1 : Int32), σ_5)))) else (some ((-1 : Int32), σ_1)))
set_option maxHeartbeats 4000000 in
set_option maxRecDepth 100000 in
theorem ct_Mo_seal (l : Launch) (D : va_G) (dA : Nat → ClassId) (adr : Nat → Nat) (A : Nat → Prop) (hA : gx_A A adr) (N : Nat) (p0 : Int32) (σ : gx_M) (r : Int32) (σ' : gx_M) (hf : fn_Mo_seal N p0 σ = some (r, σ')) : Met l y_Mo_seal w_Mo_seal rm_Mo_seal (gx_Pc D dA adr σ [.ref (adr 722), .int p0]) (gx_Q D dA adr A (some (.int r)) σ') 0 0 A := by
  refine Met.ofW (cc := b_Mo_seal) (maxL := 2) (ret := some .int) (by decide) rfl ?_
  intro p e s m args below meth c s₁ B hml hv
  obtain ⟨rfl, hP, hK⟩ := hv
  have hx := B.exec
  have hb := B.bytes
  have hr := B.returns
  have hlocks := B.notSynchronized
  have ht : ∀ w ∈ gx_tb, w.before _ s = true := fun w h => atoms_spec (ws := w_Mo_seal) B.pre w (List.mem_cons_of_mem _ h)
  have hown : s.vm.findClass R_Mo = some m.cls := findClass_of_methodNamed B.named
  have G : gx_G p m c b_Mo_seal 2 s _ gx_tb R_Mo D dA := ⟨⟨hx, hb, hml, hown, ht⟩, hK⟩
  have hI : gx_I D dA adr A s.heap σ s.heap [] := ⟨hP, va_S.rf⟩
  have hl := lv_entry ([.ref (adr 722), .int p0]) (n := 2) (Nat.le_of_ble_eq_true rfl)
  rw [lg_entry_eq]
  generalize (lg_sl ([.ref (adr 722), .int p0]) ++ List.replicate (2 - (lg_sl ([.ref (adr 722), .int p0])).length) Slot.unset).toArray = ls at hl ⊢
  have hl : lv_has ls 2 [(0, .ref (adr 722)), (1, .int p0)] := hl
  rw [fn_Mo_seal] at hf
  refine lv_aload_n hx hb d_Mo_seal_0 rfl (lv_at hl 0 rfl) ?_
  refine lv_iload_n hx hb d_Mo_seal_1 rfl (lv_at hl 1 rfl) ?_
  obtain ⟨r_3, σ_1, hc_2, hf⟩ := gx_bde hf
  refine gx_go (va_runV (As := [.int p0]) (rest := []) G.1 (ct_Mo_no l D dA adr A hA N p0 σ r_3 σ_1 hc_2) (cwV 1 ht gi_Mo_97 rfl rfl rfl (by decide +kernel) ⟨Nat.le_of_ble_eq_true rfl, Nat.le_of_ble_eq_true rfl⟩) (gx_preV G hI cl_Mo (by decide)) rfl rfl hl.1 rfl (lv_room (Nat.le_of_ble_eq_true rfl)) d_Mo_seal_2 ⟨Nat.zero_le _, Nat.zero_le _⟩) hI (st1 := [.int r_3]) rfl (fun H locs hI => ?_)
  refine lv_if_ne (tgt := 31) hx hb d_Mo_seal_5 (by decide) (fun c_4 => ?_) (fun c_4 => ?_)
  · replace hf := (if_neg c_4).symm.trans hf
    refine lv_iconst (v := (-1)) hx hb d_Mo_seal_31 (by decide) ?_
    cases hf
    exact W.iret hx hb hr (gx_F hI) hI.2.2.2 d_Mo_seal_32
  · replace hf := (if_pos c_4).symm.trans hf
    refine lv_aload_n hx hb d_Mo_seal_8 rfl (lv_at hl 0 rfl) ?_
    refine lv_iload_n hx hb d_Mo_seal_9 rfl (lv_at hl 1 rfl) ?_
    refine lv_bipush (v := 9) hx hb d_Mo_seal_10 (by decide) ?_
    obtain ⟨r_7, σ_5, hc_6, hf⟩ := gx_bde hf
    refine gx_go (va_runV (As := [.int p0, .int ((9 : Int32))]) (rest := []) G.1 (ct_Mo_of l D dA adr A hA N p0 ((9 : Int32)) σ_1 r_7 σ_5 hc_6) (cwV 2 ht gi_Mo_65 rfl rfl rfl (by decide +kernel) ⟨Nat.le_of_ble_eq_true rfl, Nat.le_of_ble_eq_true rfl⟩) (gx_preV G hI cl_Mo (by decide)) rfl rfl hl.1 rfl (lv_room (Nat.le_of_ble_eq_true rfl)) d_Mo_seal_12 ⟨Nat.zero_le _, Nat.zero_le _⟩) hI (st1 := [.int r_7]) rfl (fun H locs hI => ?_)
    refine lv_bipush (v := 6) hx hb d_Mo_seal_15 (by decide) ?_
    refine lv_icmp_ne (tgt := 31) hx hb d_Mo_seal_17 (by decide) (fun c_8 => ?_) (fun c_8 => ?_)
    · replace hf := (if_neg c_8).symm.trans hf
      refine lv_iconst (v := (-1)) hx hb d_Mo_seal_31 (by decide) ?_
      cases hf
      exact W.iret hx hb hr (gx_F hI) hI.2.2.2 d_Mo_seal_32
    · replace hf := (if_pos c_8).symm.trans hf
      refine lv_aload_n hx hb d_Mo_seal_20 rfl (lv_at hl 0 rfl) ?_
      refine lv_iload_n hx hb d_Mo_seal_21 rfl (lv_at hl 1 rfl) ?_
      refine lv_bipush (v := 8) hx hb d_Mo_seal_22 (by decide) ?_
      obtain ⟨r_11, σ_9, hc_10, hf⟩ := gx_bde hf
      refine gx_go (va_runV (As := [.int p0, .int ((8 : Int32))]) (rest := []) G.1 (ct_Mo_of l D dA adr A hA N p0 ((8 : Int32)) σ_5 r_11 σ_9 hc_10) (cwV 2 ht gi_Mo_65 rfl rfl rfl (by decide +kernel) ⟨Nat.le_of_ble_eq_true rfl, Nat.le_of_ble_eq_true rfl⟩) (gx_preV G hI cl_Mo (by decide)) rfl rfl hl.1 rfl (lv_room (Nat.le_of_ble_eq_true rfl)) d_Mo_seal_24 ⟨Nat.zero_le _, Nat.zero_le _⟩) hI (st1 := [.int r_11]) rfl (fun H locs hI => ?_)
      refine lv_iconst (v := 1) hx hb d_Mo_seal_27 (by decide) ?_
      refine lv_icmp_ne (tgt := 33) hx hb d_Mo_seal_28 (by decide) (fun c_12 => ?_) (fun c_12 => ?_)
      · replace hf := (if_neg c_12).symm.trans hf
        refine lv_aload_n hx hb d_Mo_seal_33 rfl (lv_at hl 0 rfl) ?_
        refine lv_iload_n hx hb d_Mo_seal_34 rfl (lv_at hl 1 rfl) ?_
        refine lv_bipush (v := 8) hx hb d_Mo_seal_35 (by decide) ?_
        refine lv_iconst (v := 1) hx hb d_Mo_seal_37 (by decide) ?_
        obtain ⟨σ_13, hc_14, hf⟩ := gx_bve hf
        refine gx_go (va_runV (As := [.int p0, .int ((8 : Int32)), .int ((1 : Int32))]) (rest := []) G.1 (ct_Mo_set l D dA adr A hA N p0 ((8 : Int32)) ((1 : Int32)) σ_9 σ_13 hc_14) (cwV 3 ht gi_Mo_69 rfl rfl rfl (by decide +kernel) ⟨Nat.le_of_ble_eq_true rfl, Nat.le_of_ble_eq_true rfl⟩) (gx_preV G hI cl_Mo (by decide)) rfl rfl hl.1 rfl (lv_room (Nat.le_of_ble_eq_true rfl)) d_Mo_seal_38 ⟨Nat.zero_le _, Nat.zero_le _⟩) hI (st1 := []) rfl (fun H locs hI => ?_)
        refine lv_aload_n hx hb d_Mo_seal_41 rfl (lv_at hl 0 rfl) ?_
        refine lv_iload_n hx hb d_Mo_seal_42 rfl (lv_at hl 1 rfl) ?_
        refine lv_bipush (v := 7) hx hb d_Mo_seal_43 (by decide) ?_
        obtain ⟨r_17, σ_15, hc_16, hf⟩ := gx_bde hf
        refine gx_go (va_runV (As := [.int p0, .int ((7 : Int32))]) (rest := []) G.1 (ct_Mo_of l D dA adr A hA N p0 ((7 : Int32)) σ_13 r_17 σ_15 hc_16) (cwV 2 ht gi_Mo_65 rfl rfl rfl (by decide +kernel) ⟨Nat.le_of_ble_eq_true rfl, Nat.le_of_ble_eq_true rfl⟩) (gx_preV G hI cl_Mo (by decide)) rfl rfl hl.1 rfl (lv_room (Nat.le_of_ble_eq_true rfl)) d_Mo_seal_45 ⟨Nat.zero_le _, Nat.zero_le _⟩) hI (st1 := [.int r_17]) rfl (fun H locs hI => ?_)
        refine lv_if_ne (tgt := 56) hx hb d_Mo_seal_48 (by decide) (fun c_18 => ?_) (fun c_18 => ?_)
        · replace hf := (if_neg c_18).symm.trans hf
          refine lv_aload_n hx hb d_Mo_seal_56 rfl (lv_at hl 0 rfl) ?_
          obtain ⟨σ_19, hc_20, hf⟩ := gx_bve hf
          refine gx_go (va_runV (As := []) (rest := []) G.1 (ct_Mo_note l D dA adr A hA N σ_15 σ_19 hc_20) (cwV 0 ht gi_Mo_94 rfl rfl rfl (by decide +kernel) ⟨Nat.le_of_ble_eq_true rfl, Nat.le_of_ble_eq_true rfl⟩) (gx_preV G hI cl_Mo (by decide)) rfl rfl hl.1 rfl (lv_room (Nat.le_of_ble_eq_true rfl)) d_Mo_seal_57 ⟨Nat.zero_le _, Nat.zero_le _⟩) hI (st1 := []) rfl (fun H locs hI => ?_)
          refine lv_iconst (v := 0) hx hb d_Mo_seal_60 (by decide) ?_
          cases hf
          exact W.iret hx hb hr (gx_F hI) hI.2.2.2 d_Mo_seal_61
        · replace hf := (if_pos c_18).symm.trans hf
          refine lv_aload_n hx hb d_Mo_seal_51 rfl (lv_at hl 0 rfl) ?_
          refine lv_iload_n hx hb d_Mo_seal_52 rfl (lv_at hl 1 rfl) ?_
          obtain ⟨σ_21, hc_22, hf⟩ := gx_bve hf
          refine gx_go (va_runV (As := [.int p0]) (rest := []) G.1 (ct_Mo_ready l D dA adr A hA N p0 σ_15 σ_21 hc_22) (cwV 1 ht gi_Mo_91 rfl rfl rfl (by decide +kernel) ⟨Nat.le_of_ble_eq_true rfl, Nat.le_of_ble_eq_true rfl⟩) (gx_preV G hI cl_Mo (by decide)) rfl rfl hl.1 rfl (lv_room (Nat.le_of_ble_eq_true rfl)) d_Mo_seal_53 ⟨Nat.zero_le _, Nat.zero_le _⟩) hI (st1 := []) rfl (fun H locs hI => ?_)
          refine lv_aload_n hx hb d_Mo_seal_56 rfl (lv_at hl 0 rfl) ?_
          obtain ⟨σ_23, hc_24, hf⟩ := gx_bve hf
          refine gx_go (va_runV (As := []) (rest := []) G.1 (ct_Mo_note l D dA adr A hA N σ_21 σ_23 hc_24) (cwV 0 ht gi_Mo_94 rfl rfl rfl (by decide +kernel) ⟨Nat.le_of_ble_eq_true rfl, Nat.le_of_ble_eq_true rfl⟩) (gx_preV G hI cl_Mo (by decide)) rfl rfl hl.1 rfl (lv_room (Nat.le_of_ble_eq_true rfl)) d_Mo_seal_57 ⟨Nat.zero_le _, Nat.zero_le _⟩) hI (st1 := []) rfl (fun H locs hI => ?_)
          refine lv_iconst (v := 0) hx hb d_Mo_seal_60 (by decide) ?_
          cases hf
          exact W.iret hx hb hr (gx_F hI) hI.2.2.2 d_Mo_seal_61
      · replace hf := (if_pos c_12).symm.trans hf
        refine lv_iconst (v := (-1)) hx hb d_Mo_seal_31 (by decide) ?_
        cases hf
        exact W.iret hx hb hr (gx_F hI) hI.2.2.2 d_Mo_seal_32
def fn_Mo_goesBefore (N : Nat) (p0 : Int32) (p1 : Int32) (σ : gx_M) : Option (Int32 × gx_M) := gx_bd (fn_Mo_of N p0 ((1 : Int32)) σ) (fun r_3 σ_1 => gx_bd (fn_Mo_of N p1 ((1 : Int32)) σ_1) (fun r_6 σ_4 => if r_6 < r_3 then (some ((1 : Int32), σ_4)) else (gx_bd (fn_Mo_of N p0 ((1 : Int32)) σ_4) (fun r_10 σ_8 => gx_bd (fn_Mo_of N p1 ((1 : Int32)) σ_8) (fun r_13 σ_11 => if r_10 = r_13 then (gx_bd (fn_Mo_of N p0 ((12 : Int32)) σ_11) (fun r_17 σ_15 => gx_bd (fn_Mo_of N p1 ((12 : Int32)) σ_15) (fun r_20 σ_18 => if r_20 ≤ r_17 then (some ((0 : Int32), σ_18)) else (some ((1 : Int32), σ_18))))) else (some ((0 : Int32), σ_11)))))))
set_option maxHeartbeats 4000000 in
set_option maxRecDepth 100000 in
theorem ct_Mo_goesBefore (l : Launch) (D : va_G) (dA : Nat → ClassId) (adr : Nat → Nat) (A : Nat → Prop) (hA : gx_A A adr) (N : Nat) (p0 : Int32) (p1 : Int32) (σ : gx_M) (r : Int32) (σ' : gx_M) (hf : fn_Mo_goesBefore N p0 p1 σ = some (r, σ')) : Met l y_Mo_goesBefore w_Mo_goesBefore rm_Mo_goesBefore (gx_Pc D dA adr σ [.ref (adr 722), .int p0, .int p1]) (gx_Q D dA adr A (some (.int r)) σ') 0 0 A := by
  refine Met.ofW (cc := b_Mo_goesBefore) (maxL := 3) (ret := some .boolean) (by decide) rfl ?_
  intro p e s m args below meth c s₁ B hml hv
  obtain ⟨rfl, hP, hK⟩ := hv
  have hx := B.exec
  have hb := B.bytes
  have hr := B.returns
  have hlocks := B.notSynchronized
  have ht : ∀ w ∈ gx_tb, w.before _ s = true := fun w h => atoms_spec (ws := w_Mo_goesBefore) B.pre w (List.mem_cons_of_mem _ h)
  have hown : s.vm.findClass R_Mo = some m.cls := findClass_of_methodNamed B.named
  have G : gx_G p m c b_Mo_goesBefore 3 s _ gx_tb R_Mo D dA := ⟨⟨hx, hb, hml, hown, ht⟩, hK⟩
  have hI : gx_I D dA adr A s.heap σ s.heap [] := ⟨hP, va_S.rf⟩
  have hl := lv_entry ([.ref (adr 722), .int p0, .int p1]) (n := 3) (Nat.le_of_ble_eq_true rfl)
  rw [lg_entry_eq]
  generalize (lg_sl ([.ref (adr 722), .int p0, .int p1]) ++ List.replicate (3 - (lg_sl ([.ref (adr 722), .int p0, .int p1])).length) Slot.unset).toArray = ls at hl ⊢
  have hl : lv_has ls 3 [(0, .ref (adr 722)), (1, .int p0), (2, .int p1)] := hl
  rw [fn_Mo_goesBefore] at hf
  refine lv_aload_n hx hb d_Mo_goesBefore_0 rfl (lv_at hl 0 rfl) ?_
  refine lv_iload_n hx hb d_Mo_goesBefore_1 rfl (lv_at hl 1 rfl) ?_
  refine lv_iconst (v := 1) hx hb d_Mo_goesBefore_2 (by decide) ?_
  obtain ⟨r_3, σ_1, hc_2, hf⟩ := gx_bde hf
  refine gx_go (va_runV (As := [.int p0, .int ((1 : Int32))]) (rest := []) G.1 (ct_Mo_of l D dA adr A hA N p0 ((1 : Int32)) σ r_3 σ_1 hc_2) (cwV 2 ht gi_Mo_65 rfl rfl rfl (by decide +kernel) ⟨Nat.le_of_ble_eq_true rfl, Nat.le_of_ble_eq_true rfl⟩) (gx_preV G hI cl_Mo (by decide)) rfl rfl hl.1 rfl (lv_room (Nat.le_of_ble_eq_true rfl)) d_Mo_goesBefore_3 ⟨Nat.zero_le _, Nat.zero_le _⟩) hI (st1 := [.int r_3]) rfl (fun H locs hI => ?_)
  refine lv_aload_n hx hb d_Mo_goesBefore_6 rfl (lv_at hl 0 rfl) ?_
  refine lv_iload_n hx hb d_Mo_goesBefore_7 rfl (lv_at hl 2 rfl) ?_
  refine lv_iconst (v := 1) hx hb d_Mo_goesBefore_8 (by decide) ?_
  obtain ⟨r_6, σ_4, hc_5, hf⟩ := gx_bde hf
  refine gx_go (va_runV (As := [.int p1, .int ((1 : Int32))]) (rest := [.int r_3]) G.1 (ct_Mo_of l D dA adr A hA N p1 ((1 : Int32)) σ_1 r_6 σ_4 hc_5) (cwV 2 ht gi_Mo_65 rfl rfl rfl (by decide +kernel) ⟨Nat.le_of_ble_eq_true rfl, Nat.le_of_ble_eq_true rfl⟩) (gx_preV G hI cl_Mo (by decide)) rfl rfl hl.1 rfl (lv_room (Nat.le_of_ble_eq_true rfl)) d_Mo_goesBefore_9 ⟨Nat.zero_le _, Nat.zero_le _⟩) hI (st1 := [.int r_6, .int r_3]) rfl (fun H locs hI => ?_)
  refine lv_icmp_gt (tgt := 47) hx hb d_Mo_goesBefore_12 (by decide) (fun c_7 => ?_) (fun c_7 => ?_)
  · replace hf := (if_pos c_7).symm.trans hf
    refine lv_iconst (v := 1) hx hb d_Mo_goesBefore_47 (by decide) ?_
    refine lv_goto (tgt := 52) hx hb d_Mo_goesBefore_48 (by decide) ?_
    cases hf
    exact W.zret (v := (1 : Int32)) hx hb hr (by decide) (gx_F hI) hI.2.2.2 d_Mo_goesBefore_52
  · replace hf := (if_neg c_7).symm.trans hf
    refine lv_aload_n hx hb d_Mo_goesBefore_15 rfl (lv_at hl 0 rfl) ?_
    refine lv_iload_n hx hb d_Mo_goesBefore_16 rfl (lv_at hl 1 rfl) ?_
    refine lv_iconst (v := 1) hx hb d_Mo_goesBefore_17 (by decide) ?_
    obtain ⟨r_10, σ_8, hc_9, hf⟩ := gx_bde hf
    refine gx_go (va_runV (As := [.int p0, .int ((1 : Int32))]) (rest := []) G.1 (ct_Mo_of l D dA adr A hA N p0 ((1 : Int32)) σ_4 r_10 σ_8 hc_9) (cwV 2 ht gi_Mo_65 rfl rfl rfl (by decide +kernel) ⟨Nat.le_of_ble_eq_true rfl, Nat.le_of_ble_eq_true rfl⟩) (gx_preV G hI cl_Mo (by decide)) rfl rfl hl.1 rfl (lv_room (Nat.le_of_ble_eq_true rfl)) d_Mo_goesBefore_18 ⟨Nat.zero_le _, Nat.zero_le _⟩) hI (st1 := [.int r_10]) rfl (fun H locs hI => ?_)
    refine lv_aload_n hx hb d_Mo_goesBefore_21 rfl (lv_at hl 0 rfl) ?_
    refine lv_iload_n hx hb d_Mo_goesBefore_22 rfl (lv_at hl 2 rfl) ?_
    refine lv_iconst (v := 1) hx hb d_Mo_goesBefore_23 (by decide) ?_
    obtain ⟨r_13, σ_11, hc_12, hf⟩ := gx_bde hf
    refine gx_go (va_runV (As := [.int p1, .int ((1 : Int32))]) (rest := [.int r_10]) G.1 (ct_Mo_of l D dA adr A hA N p1 ((1 : Int32)) σ_8 r_13 σ_11 hc_12) (cwV 2 ht gi_Mo_65 rfl rfl rfl (by decide +kernel) ⟨Nat.le_of_ble_eq_true rfl, Nat.le_of_ble_eq_true rfl⟩) (gx_preV G hI cl_Mo (by decide)) rfl rfl hl.1 rfl (lv_room (Nat.le_of_ble_eq_true rfl)) d_Mo_goesBefore_24 ⟨Nat.zero_le _, Nat.zero_le _⟩) hI (st1 := [.int r_13, .int r_10]) rfl (fun H locs hI => ?_)
    refine lv_icmp_ne (tgt := 51) hx hb d_Mo_goesBefore_27 (by decide) (fun c_14 => ?_) (fun c_14 => ?_)
    · replace hf := (if_neg c_14).symm.trans hf
      refine lv_iconst (v := 0) hx hb d_Mo_goesBefore_51 (by decide) ?_
      cases hf
      exact W.zret (v := (0 : Int32)) hx hb hr (by decide) (gx_F hI) hI.2.2.2 d_Mo_goesBefore_52
    · replace hf := (if_pos c_14).symm.trans hf
      refine lv_aload_n hx hb d_Mo_goesBefore_30 rfl (lv_at hl 0 rfl) ?_
      refine lv_iload_n hx hb d_Mo_goesBefore_31 rfl (lv_at hl 1 rfl) ?_
      refine lv_bipush (v := 12) hx hb d_Mo_goesBefore_32 (by decide) ?_
      obtain ⟨r_17, σ_15, hc_16, hf⟩ := gx_bde hf
      refine gx_go (va_runV (As := [.int p0, .int ((12 : Int32))]) (rest := []) G.1 (ct_Mo_of l D dA adr A hA N p0 ((12 : Int32)) σ_11 r_17 σ_15 hc_16) (cwV 2 ht gi_Mo_65 rfl rfl rfl (by decide +kernel) ⟨Nat.le_of_ble_eq_true rfl, Nat.le_of_ble_eq_true rfl⟩) (gx_preV G hI cl_Mo (by decide)) rfl rfl hl.1 rfl (lv_room (Nat.le_of_ble_eq_true rfl)) d_Mo_goesBefore_34 ⟨Nat.zero_le _, Nat.zero_le _⟩) hI (st1 := [.int r_17]) rfl (fun H locs hI => ?_)
      refine lv_aload_n hx hb d_Mo_goesBefore_37 rfl (lv_at hl 0 rfl) ?_
      refine lv_iload_n hx hb d_Mo_goesBefore_38 rfl (lv_at hl 2 rfl) ?_
      refine lv_bipush (v := 12) hx hb d_Mo_goesBefore_39 (by decide) ?_
      obtain ⟨r_20, σ_18, hc_19, hf⟩ := gx_bde hf
      refine gx_go (va_runV (As := [.int p1, .int ((12 : Int32))]) (rest := [.int r_17]) G.1 (ct_Mo_of l D dA adr A hA N p1 ((12 : Int32)) σ_15 r_20 σ_18 hc_19) (cwV 2 ht gi_Mo_65 rfl rfl rfl (by decide +kernel) ⟨Nat.le_of_ble_eq_true rfl, Nat.le_of_ble_eq_true rfl⟩) (gx_preV G hI cl_Mo (by decide)) rfl rfl hl.1 rfl (lv_room (Nat.le_of_ble_eq_true rfl)) d_Mo_goesBefore_41 ⟨Nat.zero_le _, Nat.zero_le _⟩) hI (st1 := [.int r_20, .int r_17]) rfl (fun H locs hI => ?_)
      refine lv_icmp_ge (tgt := 51) hx hb d_Mo_goesBefore_44 (by decide) (fun c_21 => ?_) (fun c_21 => ?_)
      · replace hf := (if_pos c_21).symm.trans hf
        refine lv_iconst (v := 0) hx hb d_Mo_goesBefore_51 (by decide) ?_
        cases hf
        exact W.zret (v := (0 : Int32)) hx hb hr (by decide) (gx_F hI) hI.2.2.2 d_Mo_goesBefore_52
      · replace hf := (if_neg c_21).symm.trans hf
        refine lv_iconst (v := 1) hx hb d_Mo_goesBefore_47 (by decide) ?_
        refine lv_goto (tgt := 52) hx hb d_Mo_goesBefore_48 (by decide) ?_
        cases hf
        exact W.zret (v := (1 : Int32)) hx hb hr (by decide) (gx_F hI) hI.2.2.2 d_Mo_goesBefore_52
def fn_Mo_inLine_L40 (N : Nat) (u3 : Int32) (u1 : Int32) (u2 : Int32) (k2 : Int32 → gx_M → Option (Int32 × gx_M)) : Nat → Int32 → Int32 → gx_M → Option (Int32 × gx_M)
  | 0, _, _, _ => none
  | n + 1, v5, v4, σ => if (σ 722 9) ≤ v5 then (if v4 = u2 then (some (u3, σ)) else (k2 (u3 + 1) σ)) else (gx_bd (fn_Mo_of N v5 ((0 : Int32)) σ) (fun r_14 σ_12 => if r_14 = u1 then (gx_bd (fn_Mo_of N v5 ((9 : Int32)) σ_12) (fun r_18 σ_16 => if r_18 = ((1 : Int32)) then (gx_bd (fn_Mo_goesBefore N v5 u3 σ_16) (fun r_22 σ_20 => if r_22 = 0 then (fn_Mo_inLine_L40 N u3 u1 u2 k2 n (v5 + 1) v4 σ_20) else (fn_Mo_inLine_L40 N u3 u1 u2 k2 n (v5 + 1) (v4 + 1) σ_20))) else (fn_Mo_inLine_L40 N u3 u1 u2 k2 n (v5 + 1) v4 σ_16))) else (fn_Mo_inLine_L40 N u3 u1 u2 k2 n (v5 + 1) v4 σ_12)))
def fn_Mo_inLine_L2 (N : Nat) (u1 : Int32) (u2 : Int32) : Nat → Int32 → gx_M → Option (Int32 × gx_M)
  | 0, _, _ => none
  | n + 1, v3, σ => if (σ 722 9) ≤ v3 then (some ((-1 : Int32), σ)) else (gx_bd (fn_Mo_of N v3 ((0 : Int32)) σ) (fun r_4 σ_2 => if r_4 = u1 then (gx_bd (fn_Mo_of N v3 ((9 : Int32)) σ_2) (fun r_8 σ_6 => if r_8 = ((1 : Int32)) then (fn_Mo_inLine_L40 N v3 u1 u2 (fn_Mo_inLine_L2 N u1 u2 n) N ((0 : Int32)) ((0 : Int32)) σ_6) else (fn_Mo_inLine_L2 N u1 u2 n (v3 + 1) σ_6))) else (fn_Mo_inLine_L2 N u1 u2 n (v3 + 1) σ_2)))
def fn_Mo_inLine (N : Nat) (p0 : Int32) (p1 : Int32) (σ : gx_M) : Option (Int32 × gx_M) := fn_Mo_inLine_L2 N p0 p1 N ((0 : Int32)) σ
set_option maxHeartbeats 4000000 in
set_option maxRecDepth 100000 in
theorem wl_Mo_inLine_L40 {p : Program} {l : Launch} {e : Env} {s : State} {m : MethodId} {args : Array Value} {below : List Frame} {meth : Method} {c : Code} {D : va_G} {dA : Nat → ClassId} {adr : Nat → Nat} {A : Nat → Prop} (G : gx_G p m c b_Mo_inLine 6 s args gx_tb R_Mo D dA) (hr : meth.sig.returnType = some .int) (hlocks : meth.locks = false) (hA : gx_A A adr) (N : Nat) (res : Int32 × gx_M) (u3 : Int32) (u1 : Int32) (u2 : Int32) (k2 : Int32 → gx_M → Option (Int32 × gx_M)) (hk2 : ∀ (a0 : Int32) (σ : gx_M) (H : Heap) (locs : List Loc) (ls : Array Slot), k2 a0 σ = some res → gx_I D dA adr A s.heap σ H locs → lv_has ls 6 [(3, .int a0), (0, .ref (adr 722)), (1, .int u1), (2, .int u2)] → W p l e (headSpec w_Mo_inLine rm_Mo_inLine).room s m args below meth c H locs 0 0 (MQ below (gx_Q D dA adr A (some (.int res.1)) res.2) args s 0 0 A) (F0 m 2 ls [])) : ∀ (n : Nat) (v5 : Int32) (v4 : Int32) (σ : gx_M) (H : Heap) (locs : List Loc) (ls : Array Slot), fn_Mo_inLine_L40 N u3 u1 u2 k2 n v5 v4 σ = some res → gx_I D dA adr A s.heap σ H locs → lv_has ls 6 [(5, .int v5), (4, .int v4), (3, .int u3), (0, .ref (adr 722)), (1, .int u1), (2, .int u2)] → W p l e (headSpec w_Mo_inLine rm_Mo_inLine).room s m args below meth c H locs 0 0 (MQ below (gx_Q D dA adr A (some (.int res.1)) res.2) args s 0 0 A) (F0 m 40 ls []) := by
  obtain ⟨⟨hx, hb, hml, hown, ht⟩, hK⟩ := id G
  intro n
  induction n with
  | zero =>
    intro v5 v4 σ H locs ls hf
    cases hf
  | succ n ih =>
    intro v5 v4 σ H locs ls hf hI hl
    rw [fn_Mo_inLine_L40] at hf
    refine lv_iload hx hb d_Mo_inLine_40 (lv_at hl 0 rfl) ?_
    refine lv_aload_n hx hb d_Mo_inLine_42 rfl (lv_at hl 3 rfl) ?_
    refine gx_getI G hI cl_Mo (by decide) 9 (by decide) (by decide) fl_Mo_35 d_Mo_inLine_43 ?_
    refine lv_icmp_ge (tgt := 91) hx hb d_Mo_inLine_46 (by decide) (fun c_10 => ?_) (fun c_10 => ?_)
    · replace hf := (if_pos c_10).symm.trans hf
      refine lv_iload hx hb d_Mo_inLine_91 (lv_at hl 1 rfl) ?_
      refine lv_iload_n hx hb d_Mo_inLine_93 rfl (lv_at hl 5 rfl) ?_
      refine lv_icmp_ne (tgt := 99) hx hb d_Mo_inLine_94 (by decide) (fun c_11 => ?_) (fun c_11 => ?_)
      · replace hf := (if_neg c_11).symm.trans hf
        refine lv_iinc (v := u3 + 1) (lv' := [(3, .int (u3 + 1)), (5, .int v5), (4, .int v4), (0, .ref (adr 722)), (1, .int u1), (2, .int u2)]) hx hb d_Mo_inLine_99 hl (k := 2) rfl rfl (by decide) rfl (fun ls hl => ?_)
        refine lv_goto (tgt := 2) hx hb d_Mo_inLine_102 (by decide) ?_
        exact hk2 (u3 + 1) σ H locs ls hf hI (lv_sub hl [0, 3, 4, 5] rfl)
      · replace hf := (if_pos c_11).symm.trans hf
        refine lv_iload_n hx hb d_Mo_inLine_97 rfl (lv_at hl 2 rfl) ?_
        cases hf
        exact W.iret hx hb hr (gx_F hI) hI.2.2.2 d_Mo_inLine_98
    · replace hf := (if_neg c_10).symm.trans hf
      refine lv_aload_n hx hb d_Mo_inLine_49 rfl (lv_at hl 3 rfl) ?_
      refine lv_iload hx hb d_Mo_inLine_50 (lv_at hl 0 rfl) ?_
      refine lv_iconst (v := 0) hx hb d_Mo_inLine_52 (by decide) ?_
      obtain ⟨r_14, σ_12, hc_13, hf⟩ := gx_bde hf
      refine gx_go (va_runV (As := [.int v5, .int ((0 : Int32))]) (rest := []) G.1 (ct_Mo_of l D dA adr A hA N v5 ((0 : Int32)) σ r_14 σ_12 hc_13) (cwV 2 ht gi_Mo_65 rfl rfl rfl (by decide +kernel) ⟨Nat.le_of_ble_eq_true rfl, Nat.le_of_ble_eq_true rfl⟩) (gx_preV G hI cl_Mo (by decide)) rfl rfl hl.1 rfl (lv_room (Nat.le_of_ble_eq_true rfl)) d_Mo_inLine_53 ⟨Nat.zero_le _, Nat.zero_le _⟩) hI (st1 := [.int r_14]) rfl (fun H locs hI => ?_)
      refine lv_iload_n hx hb d_Mo_inLine_56 rfl (lv_at hl 4 rfl) ?_
      refine lv_icmp_ne (tgt := 85) hx hb d_Mo_inLine_57 (by decide) (fun c_15 => ?_) (fun c_15 => ?_)
      · replace hf := (if_neg c_15).symm.trans hf
        refine lv_iinc (v := v5 + 1) (lv' := [(5, .int (v5 + 1)), (4, .int v4), (3, .int u3), (0, .ref (adr 722)), (1, .int u1), (2, .int u2)]) hx hb d_Mo_inLine_85 hl (k := 0) rfl rfl (by decide) rfl (fun ls hl => ?_)
        refine lv_goto (tgt := 40) hx hb d_Mo_inLine_88 (by decide) ?_
        exact ih (v5 + 1) v4 σ_12 H locs ls hf hI (lv_sub hl [0, 1, 2, 3, 4, 5] rfl)
      · replace hf := (if_pos c_15).symm.trans hf
        refine lv_aload_n hx hb d_Mo_inLine_60 rfl (lv_at hl 3 rfl) ?_
        refine lv_iload hx hb d_Mo_inLine_61 (lv_at hl 0 rfl) ?_
        refine lv_bipush (v := 9) hx hb d_Mo_inLine_63 (by decide) ?_
        obtain ⟨r_18, σ_16, hc_17, hf⟩ := gx_bde hf
        refine gx_go (va_runV (As := [.int v5, .int ((9 : Int32))]) (rest := []) G.1 (ct_Mo_of l D dA adr A hA N v5 ((9 : Int32)) σ_12 r_18 σ_16 hc_17) (cwV 2 ht gi_Mo_65 rfl rfl rfl (by decide +kernel) ⟨Nat.le_of_ble_eq_true rfl, Nat.le_of_ble_eq_true rfl⟩) (gx_preV G hI cl_Mo (by decide)) rfl rfl hl.1 rfl (lv_room (Nat.le_of_ble_eq_true rfl)) d_Mo_inLine_65 ⟨Nat.zero_le _, Nat.zero_le _⟩) hI (st1 := [.int r_18]) rfl (fun H locs hI => ?_)
        refine lv_iconst (v := 1) hx hb d_Mo_inLine_68 (by decide) ?_
        refine lv_icmp_ne (tgt := 85) hx hb d_Mo_inLine_69 (by decide) (fun c_19 => ?_) (fun c_19 => ?_)
        · replace hf := (if_neg c_19).symm.trans hf
          refine lv_iinc (v := v5 + 1) (lv' := [(5, .int (v5 + 1)), (4, .int v4), (3, .int u3), (0, .ref (adr 722)), (1, .int u1), (2, .int u2)]) hx hb d_Mo_inLine_85 hl (k := 0) rfl rfl (by decide) rfl (fun ls hl => ?_)
          refine lv_goto (tgt := 40) hx hb d_Mo_inLine_88 (by decide) ?_
          exact ih (v5 + 1) v4 σ_16 H locs ls hf hI (lv_sub hl [0, 1, 2, 3, 4, 5] rfl)
        · replace hf := (if_pos c_19).symm.trans hf
          refine lv_aload_n hx hb d_Mo_inLine_72 rfl (lv_at hl 3 rfl) ?_
          refine lv_iload hx hb d_Mo_inLine_73 (lv_at hl 0 rfl) ?_
          refine lv_iload_n hx hb d_Mo_inLine_75 rfl (lv_at hl 2 rfl) ?_
          obtain ⟨r_22, σ_20, hc_21, hf⟩ := gx_bde hf
          refine gx_go (va_runV (As := [.int v5, .int u3]) (rest := []) G.1 (ct_Mo_goesBefore l D dA adr A hA N v5 u3 σ_16 r_22 σ_20 hc_21) (cwV 2 ht gi_Mo_100 rfl rfl rfl (by decide +kernel) ⟨Nat.le_of_ble_eq_true rfl, Nat.le_of_ble_eq_true rfl⟩) (gx_preV G hI cl_Mo (by decide)) rfl rfl hl.1 rfl (lv_room (Nat.le_of_ble_eq_true rfl)) d_Mo_inLine_76 ⟨Nat.zero_le _, Nat.zero_le _⟩) hI (st1 := [.int r_22]) rfl (fun H locs hI => ?_)
          refine lv_if_eq (tgt := 85) hx hb d_Mo_inLine_79 (by decide) (fun c_23 => ?_) (fun c_23 => ?_)
          · replace hf := (if_pos c_23).symm.trans hf
            refine lv_iinc (v := v5 + 1) (lv' := [(5, .int (v5 + 1)), (4, .int v4), (3, .int u3), (0, .ref (adr 722)), (1, .int u1), (2, .int u2)]) hx hb d_Mo_inLine_85 hl (k := 0) rfl rfl (by decide) rfl (fun ls hl => ?_)
            refine lv_goto (tgt := 40) hx hb d_Mo_inLine_88 (by decide) ?_
            exact ih (v5 + 1) v4 σ_20 H locs ls hf hI (lv_sub hl [0, 1, 2, 3, 4, 5] rfl)
          · replace hf := (if_neg c_23).symm.trans hf
            refine lv_iinc (v := v4 + 1) (lv' := [(4, .int (v4 + 1)), (5, .int v5), (3, .int u3), (0, .ref (adr 722)), (1, .int u1), (2, .int u2)]) hx hb d_Mo_inLine_82 hl (k := 1) rfl rfl (by decide) rfl (fun ls hl => ?_)
            refine lv_iinc (v := v5 + 1) (lv' := [(5, .int (v5 + 1)), (4, .int (v4 + 1)), (3, .int u3), (0, .ref (adr 722)), (1, .int u1), (2, .int u2)]) hx hb d_Mo_inLine_85 hl (k := 1) rfl rfl (by decide) rfl (fun ls hl => ?_)
            refine lv_goto (tgt := 40) hx hb d_Mo_inLine_88 (by decide) ?_
            exact ih (v5 + 1) (v4 + 1) σ_20 H locs ls hf hI (lv_sub hl [0, 1, 2, 3, 4, 5] rfl)
set_option maxHeartbeats 4000000 in
set_option maxRecDepth 100000 in
theorem wl_Mo_inLine_L2 {p : Program} {l : Launch} {e : Env} {s : State} {m : MethodId} {args : Array Value} {below : List Frame} {meth : Method} {c : Code} {D : va_G} {dA : Nat → ClassId} {adr : Nat → Nat} {A : Nat → Prop} (G : gx_G p m c b_Mo_inLine 6 s args gx_tb R_Mo D dA) (hr : meth.sig.returnType = some .int) (hlocks : meth.locks = false) (hA : gx_A A adr) (N : Nat) (res : Int32 × gx_M) (u1 : Int32) (u2 : Int32) : ∀ (n : Nat) (v3 : Int32) (σ : gx_M) (H : Heap) (locs : List Loc) (ls : Array Slot), fn_Mo_inLine_L2 N u1 u2 n v3 σ = some res → gx_I D dA adr A s.heap σ H locs → lv_has ls 6 [(3, .int v3), (0, .ref (adr 722)), (1, .int u1), (2, .int u2)] → W p l e (headSpec w_Mo_inLine rm_Mo_inLine).room s m args below meth c H locs 0 0 (MQ below (gx_Q D dA adr A (some (.int res.1)) res.2) args s 0 0 A) (F0 m 2 ls []) := by
  obtain ⟨⟨hx, hb, hml, hown, ht⟩, hK⟩ := id G
  intro n
  induction n with
  | zero =>
    intro v3 σ H locs ls hf
    cases hf
  | succ n ih =>
    intro v3 σ H locs ls hf hI hl
    rw [fn_Mo_inLine_L2] at hf
    refine lv_iload_n hx hb d_Mo_inLine_2 rfl (lv_at hl 0 rfl) ?_
    refine lv_aload_n hx hb d_Mo_inLine_3 rfl (lv_at hl 1 rfl) ?_
    refine gx_getI G hI cl_Mo (by decide) 9 (by decide) (by decide) fl_Mo_35 d_Mo_inLine_4 ?_
    refine lv_icmp_ge (tgt := 105) hx hb d_Mo_inLine_7 (by decide) (fun c_1 => ?_) (fun c_1 => ?_)
    · replace hf := (if_pos c_1).symm.trans hf
      refine lv_iconst (v := (-1)) hx hb d_Mo_inLine_105 (by decide) ?_
      cases hf
      exact W.iret hx hb hr (gx_F hI) hI.2.2.2 d_Mo_inLine_106
    · replace hf := (if_neg c_1).symm.trans hf
      refine lv_aload_n hx hb d_Mo_inLine_10 rfl (lv_at hl 1 rfl) ?_
      refine lv_iload_n hx hb d_Mo_inLine_11 rfl (lv_at hl 0 rfl) ?_
      refine lv_iconst (v := 0) hx hb d_Mo_inLine_12 (by decide) ?_
      obtain ⟨r_4, σ_2, hc_3, hf⟩ := gx_bde hf
      refine gx_go (va_runV (As := [.int v3, .int ((0 : Int32))]) (rest := []) G.1 (ct_Mo_of l D dA adr A hA N v3 ((0 : Int32)) σ r_4 σ_2 hc_3) (cwV 2 ht gi_Mo_65 rfl rfl rfl (by decide +kernel) ⟨Nat.le_of_ble_eq_true rfl, Nat.le_of_ble_eq_true rfl⟩) (gx_preV G hI cl_Mo (by decide)) rfl rfl hl.1 rfl (lv_room (Nat.le_of_ble_eq_true rfl)) d_Mo_inLine_13 ⟨Nat.zero_le _, Nat.zero_le _⟩) hI (st1 := [.int r_4]) rfl (fun H locs hI => ?_)
      refine lv_iload_n hx hb d_Mo_inLine_16 rfl (lv_at hl 2 rfl) ?_
      refine lv_icmp_ne (tgt := 99) hx hb d_Mo_inLine_17 (by decide) (fun c_5 => ?_) (fun c_5 => ?_)
      · replace hf := (if_neg c_5).symm.trans hf
        refine lv_iinc (v := v3 + 1) (lv' := [(3, .int (v3 + 1)), (0, .ref (adr 722)), (1, .int u1), (2, .int u2)]) hx hb d_Mo_inLine_99 hl (k := 0) rfl rfl (by decide) rfl (fun ls hl => ?_)
        refine lv_goto (tgt := 2) hx hb d_Mo_inLine_102 (by decide) ?_
        exact ih (v3 + 1) σ_2 H locs ls hf hI (lv_sub hl [0, 1, 2, 3] rfl)
      · replace hf := (if_pos c_5).symm.trans hf
        refine lv_aload_n hx hb d_Mo_inLine_20 rfl (lv_at hl 1 rfl) ?_
        refine lv_iload_n hx hb d_Mo_inLine_21 rfl (lv_at hl 0 rfl) ?_
        refine lv_bipush (v := 9) hx hb d_Mo_inLine_22 (by decide) ?_
        obtain ⟨r_8, σ_6, hc_7, hf⟩ := gx_bde hf
        refine gx_go (va_runV (As := [.int v3, .int ((9 : Int32))]) (rest := []) G.1 (ct_Mo_of l D dA adr A hA N v3 ((9 : Int32)) σ_2 r_8 σ_6 hc_7) (cwV 2 ht gi_Mo_65 rfl rfl rfl (by decide +kernel) ⟨Nat.le_of_ble_eq_true rfl, Nat.le_of_ble_eq_true rfl⟩) (gx_preV G hI cl_Mo (by decide)) rfl rfl hl.1 rfl (lv_room (Nat.le_of_ble_eq_true rfl)) d_Mo_inLine_24 ⟨Nat.zero_le _, Nat.zero_le _⟩) hI (st1 := [.int r_8]) rfl (fun H locs hI => ?_)
        refine lv_iconst (v := 1) hx hb d_Mo_inLine_27 (by decide) ?_
        refine lv_icmp_eq (tgt := 34) hx hb d_Mo_inLine_28 (by decide) (fun c_9 => ?_) (fun c_9 => ?_)
        · replace hf := (if_pos c_9).symm.trans hf
          refine lv_iconst (v := 0) hx hb d_Mo_inLine_34 (by decide) ?_
          refine lv_istore (i := 4) (lv' := [(4, .int ((0 : Int32))), (3, .int v3), (0, .ref (adr 722)), (1, .int u1), (2, .int u2)]) hx hb d_Mo_inLine_35 hl (by decide) rfl (fun ls hl => ?_)
          refine lv_iconst (v := 0) hx hb d_Mo_inLine_37 (by decide) ?_
          refine lv_istore (i := 5) (lv' := [(5, .int ((0 : Int32))), (4, .int ((0 : Int32))), (3, .int v3), (0, .ref (adr 722)), (1, .int u1), (2, .int u2)]) hx hb d_Mo_inLine_38 hl (by decide) rfl (fun ls hl => ?_)
          exact wl_Mo_inLine_L40 G hr hlocks hA N _ v3 u1 u2 (fn_Mo_inLine_L2 N u1 u2 n) ih N ((0 : Int32)) ((0 : Int32)) σ_6 H locs ls hf hI (lv_sub hl [0, 1, 2, 3, 4, 5] rfl)
        · replace hf := (if_neg c_9).symm.trans hf
          refine lv_goto (tgt := 99) hx hb d_Mo_inLine_31 (by decide) ?_
          refine lv_iinc (v := v3 + 1) (lv' := [(3, .int (v3 + 1)), (0, .ref (adr 722)), (1, .int u1), (2, .int u2)]) hx hb d_Mo_inLine_99 hl (k := 0) rfl rfl (by decide) rfl (fun ls hl => ?_)
          refine lv_goto (tgt := 2) hx hb d_Mo_inLine_102 (by decide) ?_
          exact ih (v3 + 1) σ_6 H locs ls hf hI (lv_sub hl [0, 1, 2, 3] rfl)
set_option maxHeartbeats 4000000 in
set_option maxRecDepth 100000 in
theorem ct_Mo_inLine (l : Launch) (D : va_G) (dA : Nat → ClassId) (adr : Nat → Nat) (A : Nat → Prop) (hA : gx_A A adr) (N : Nat) (p0 : Int32) (p1 : Int32) (σ : gx_M) (r : Int32) (σ' : gx_M) (hf : fn_Mo_inLine N p0 p1 σ = some (r, σ')) : Met l y_Mo_inLine w_Mo_inLine rm_Mo_inLine (gx_Pc D dA adr σ [.ref (adr 722), .int p0, .int p1]) (gx_Q D dA adr A (some (.int r)) σ') 0 0 A := by
  refine Met.ofW (cc := b_Mo_inLine) (maxL := 6) (ret := some .int) (by decide) rfl ?_
  intro p e s m args below meth c s₁ B hml hv
  obtain ⟨rfl, hP, hK⟩ := hv
  have hx := B.exec
  have hb := B.bytes
  have hr := B.returns
  have hlocks := B.notSynchronized
  have ht : ∀ w ∈ gx_tb, w.before _ s = true := fun w h => atoms_spec (ws := w_Mo_inLine) B.pre w (List.mem_cons_of_mem _ h)
  have hown : s.vm.findClass R_Mo = some m.cls := findClass_of_methodNamed B.named
  have G : gx_G p m c b_Mo_inLine 6 s _ gx_tb R_Mo D dA := ⟨⟨hx, hb, hml, hown, ht⟩, hK⟩
  have hI : gx_I D dA adr A s.heap σ s.heap [] := ⟨hP, va_S.rf⟩
  have hl := lv_entry ([.ref (adr 722), .int p0, .int p1]) (n := 6) (Nat.le_of_ble_eq_true rfl)
  rw [lg_entry_eq]
  generalize (lg_sl ([.ref (adr 722), .int p0, .int p1]) ++ List.replicate (6 - (lg_sl ([.ref (adr 722), .int p0, .int p1])).length) Slot.unset).toArray = ls at hl ⊢
  have hl : lv_has ls 6 [(0, .ref (adr 722)), (1, .int p0), (2, .int p1)] := hl
  rw [fn_Mo_inLine] at hf
  refine lv_iconst (v := 0) hx hb d_Mo_inLine_0 (by decide) ?_
  refine lv_istore_n (i := 3) (lv' := [(3, .int ((0 : Int32))), (0, .ref (adr 722)), (1, .int p0), (2, .int p1)]) hx hb d_Mo_inLine_1 rfl hl (by decide) rfl (fun ls hl => ?_)
  exact wl_Mo_inLine_L2 G hr hlocks hA N _ p0 p1 N ((0 : Int32)) σ _ _ ls hf hI (lv_sub hl [0, 1, 2, 3] rfl)
def fn_Mo_isOpen (N : Nat) (p0 : Int32) (σ : gx_M) : Option (Int32 × gx_M) := if 0 ≤ p0 ∧ p0 < 4 then (if (σ 723 p0.toNatClampNeg) ≤ 0 then (some ((0 : Int32), σ)) else (if 0 ≤ p0 ∧ p0 < 4 then (if (σ 725 p0.toNatClampNeg) = 0 then (gx_bd (fn_Mo_inLine N p0 ((0 : Int32)) σ) (fun r_7 σ_5 => if r_7 < 0 then (some ((0 : Int32), σ_5)) else (some ((1 : Int32), σ_5)))) else (if 0 ≤ p0 ∧ p0 < 4 then (if (σ 726 p0.toNatClampNeg) ≤ 0 then (some ((0 : Int32), σ)) else (gx_bd (fn_Mo_inLine N p0 ((0 : Int32)) σ) (fun r_13 σ_11 => if r_13 < 0 then (some ((0 : Int32), σ_11)) else (some ((1 : Int32), σ_11))))) else none)) else none)) else none
set_option maxHeartbeats 4000000 in
set_option maxRecDepth 100000 in
theorem ct_Mo_isOpen (l : Launch) (D : va_G) (dA : Nat → ClassId) (adr : Nat → Nat) (A : Nat → Prop) (hA : gx_A A adr) (N : Nat) (p0 : Int32) (σ : gx_M) (r : Int32) (σ' : gx_M) (hf : fn_Mo_isOpen N p0 σ = some (r, σ')) : Met l y_Mo_isOpen w_Mo_isOpen rm_Mo_isOpen (gx_Pc D dA adr σ [.ref (adr 722), .int p0]) (gx_Q D dA adr A (some (.int r)) σ') 0 0 A := by
  refine Met.ofW (cc := b_Mo_isOpen) (maxL := 2) (ret := some .boolean) (by decide) rfl ?_
  intro p e s m args below meth c s₁ B hml hv
  obtain ⟨rfl, hP, hK⟩ := hv
  have hx := B.exec
  have hb := B.bytes
  have hr := B.returns
  have hlocks := B.notSynchronized
  have ht : ∀ w ∈ gx_tb, w.before _ s = true := fun w h => atoms_spec (ws := w_Mo_isOpen) B.pre w (List.mem_cons_of_mem _ h)
  have hown : s.vm.findClass R_Mo = some m.cls := findClass_of_methodNamed B.named
  have G : gx_G p m c b_Mo_isOpen 2 s _ gx_tb R_Mo D dA := ⟨⟨hx, hb, hml, hown, ht⟩, hK⟩
  have hI : gx_I D dA adr A s.heap σ s.heap [] := ⟨hP, va_S.rf⟩
  have hl := lv_entry ([.ref (adr 722), .int p0]) (n := 2) (Nat.le_of_ble_eq_true rfl)
  rw [lg_entry_eq]
  generalize (lg_sl ([.ref (adr 722), .int p0]) ++ List.replicate (2 - (lg_sl ([.ref (adr 722), .int p0])).length) Slot.unset).toArray = ls at hl ⊢
  have hl : lv_has ls 2 [(0, .ref (adr 722)), (1, .int p0)] := hl
  rw [fn_Mo_isOpen] at hf
  refine lv_aload_n hx hb d_Mo_isOpen_0 rfl (lv_at hl 0 rfl) ?_
  refine gx_getR (o' := 723) G hI cl_Mo (by decide) 2 (by decide) (by decide) fl_Mo_13 d_Mo_isOpen_1 ?_
  refine lv_iload_n hx hb d_Mo_isOpen_4 rfl (lv_at hl 1 rfl) ?_
  obtain ⟨hi_1, hf⟩ := gx_gd hf
  refine gx_ild G hI (by decide) (gx_in hi_1 (by decide)) d_Mo_isOpen_5 ?_
  refine lv_if_le (tgt := 40) hx hb d_Mo_isOpen_6 (by decide) (fun c_2 => ?_) (fun c_2 => ?_)
  · replace hf := (if_pos c_2).symm.trans hf
    refine lv_iconst (v := 0) hx hb d_Mo_isOpen_40 (by decide) ?_
    cases hf
    exact W.zret (v := (0 : Int32)) hx hb hr (by decide) (gx_F hI) hI.2.2.2 d_Mo_isOpen_41
  · replace hf := (if_neg c_2).symm.trans hf
    refine lv_aload_n hx hb d_Mo_isOpen_9 rfl (lv_at hl 0 rfl) ?_
    refine gx_getR (o' := 725) G hI cl_Mo (by decide) 4 (by decide) (by decide) fl_Mo_20 d_Mo_isOpen_10 ?_
    refine lv_iload_n hx hb d_Mo_isOpen_13 rfl (lv_at hl 1 rfl) ?_
    obtain ⟨hi_3, hf⟩ := gx_gd hf
    refine gx_ild G hI (by decide) (gx_in hi_3 (by decide)) d_Mo_isOpen_14 ?_
    refine lv_if_eq (tgt := 27) hx hb d_Mo_isOpen_15 (by decide) (fun c_4 => ?_) (fun c_4 => ?_)
    · replace hf := (if_pos c_4).symm.trans hf
      refine lv_aload_n hx hb d_Mo_isOpen_27 rfl (lv_at hl 0 rfl) ?_
      refine lv_iload_n hx hb d_Mo_isOpen_28 rfl (lv_at hl 1 rfl) ?_
      refine lv_iconst (v := 0) hx hb d_Mo_isOpen_29 (by decide) ?_
      obtain ⟨r_7, σ_5, hc_6, hf⟩ := gx_bde hf
      refine gx_go (va_runV (As := [.int p0, .int ((0 : Int32))]) (rest := []) G.1 (ct_Mo_inLine l D dA adr A hA N p0 ((0 : Int32)) σ r_7 σ_5 hc_6) (cwV 2 ht gi_Mo_104 rfl rfl rfl (by decide +kernel) ⟨Nat.le_of_ble_eq_true rfl, Nat.le_of_ble_eq_true rfl⟩) (gx_preV G hI cl_Mo (by decide)) rfl rfl hl.1 rfl (lv_room (Nat.le_of_ble_eq_true rfl)) d_Mo_isOpen_30 ⟨Nat.zero_le _, Nat.zero_le _⟩) hI (st1 := [.int r_7]) rfl (fun H locs hI => ?_)
      refine lv_if_lt (tgt := 40) hx hb d_Mo_isOpen_33 (by decide) (fun c_8 => ?_) (fun c_8 => ?_)
      · replace hf := (if_pos c_8).symm.trans hf
        refine lv_iconst (v := 0) hx hb d_Mo_isOpen_40 (by decide) ?_
        cases hf
        exact W.zret (v := (0 : Int32)) hx hb hr (by decide) (gx_F hI) hI.2.2.2 d_Mo_isOpen_41
      · replace hf := (if_neg c_8).symm.trans hf
        refine lv_iconst (v := 1) hx hb d_Mo_isOpen_36 (by decide) ?_
        refine lv_goto (tgt := 41) hx hb d_Mo_isOpen_37 (by decide) ?_
        cases hf
        exact W.zret (v := (1 : Int32)) hx hb hr (by decide) (gx_F hI) hI.2.2.2 d_Mo_isOpen_41
    · replace hf := (if_neg c_4).symm.trans hf
      refine lv_aload_n hx hb d_Mo_isOpen_18 rfl (lv_at hl 0 rfl) ?_
      refine gx_getR (o' := 726) G hI cl_Mo (by decide) 5 (by decide) (by decide) fl_Mo_23 d_Mo_isOpen_19 ?_
      refine lv_iload_n hx hb d_Mo_isOpen_22 rfl (lv_at hl 1 rfl) ?_
      obtain ⟨hi_9, hf⟩ := gx_gd hf
      refine gx_ild G hI (by decide) (gx_in hi_9 (by decide)) d_Mo_isOpen_23 ?_
      refine lv_if_le (tgt := 40) hx hb d_Mo_isOpen_24 (by decide) (fun c_10 => ?_) (fun c_10 => ?_)
      · replace hf := (if_pos c_10).symm.trans hf
        refine lv_iconst (v := 0) hx hb d_Mo_isOpen_40 (by decide) ?_
        cases hf
        exact W.zret (v := (0 : Int32)) hx hb hr (by decide) (gx_F hI) hI.2.2.2 d_Mo_isOpen_41
      · replace hf := (if_neg c_10).symm.trans hf
        refine lv_aload_n hx hb d_Mo_isOpen_27 rfl (lv_at hl 0 rfl) ?_
        refine lv_iload_n hx hb d_Mo_isOpen_28 rfl (lv_at hl 1 rfl) ?_
        refine lv_iconst (v := 0) hx hb d_Mo_isOpen_29 (by decide) ?_
        obtain ⟨r_13, σ_11, hc_12, hf⟩ := gx_bde hf
        refine gx_go (va_runV (As := [.int p0, .int ((0 : Int32))]) (rest := []) G.1 (ct_Mo_inLine l D dA adr A hA N p0 ((0 : Int32)) σ r_13 σ_11 hc_12) (cwV 2 ht gi_Mo_104 rfl rfl rfl (by decide +kernel) ⟨Nat.le_of_ble_eq_true rfl, Nat.le_of_ble_eq_true rfl⟩) (gx_preV G hI cl_Mo (by decide)) rfl rfl hl.1 rfl (lv_room (Nat.le_of_ble_eq_true rfl)) d_Mo_isOpen_30 ⟨Nat.zero_le _, Nat.zero_le _⟩) hI (st1 := [.int r_13]) rfl (fun H locs hI => ?_)
        refine lv_if_lt (tgt := 40) hx hb d_Mo_isOpen_33 (by decide) (fun c_14 => ?_) (fun c_14 => ?_)
        · replace hf := (if_pos c_14).symm.trans hf
          refine lv_iconst (v := 0) hx hb d_Mo_isOpen_40 (by decide) ?_
          cases hf
          exact W.zret (v := (0 : Int32)) hx hb hr (by decide) (gx_F hI) hI.2.2.2 d_Mo_isOpen_41
        · replace hf := (if_neg c_14).symm.trans hf
          refine lv_iconst (v := 1) hx hb d_Mo_isOpen_36 (by decide) ?_
          refine lv_goto (tgt := 41) hx hb d_Mo_isOpen_37 (by decide) ?_
          cases hf
          exact W.zret (v := (1 : Int32)) hx hb hr (by decide) (gx_F hI) hI.2.2.2 d_Mo_isOpen_41
def fn_Mo_choose_L6 (N : Nat) : Nat → Int32 → Int32 → Int32 → gx_M → Option (Int32 × gx_M)
  | 0, _, _, _, _ => none
  | n + 1, v3, v2, v1, σ => if ((4 : Int32)) ≤ v3 then (if v1 < 0 then (some (v1, σ)) else (if 0 ≤ v1 ∧ v1 < 4 then (if 0 ≤ v1 ∧ v1 < 4 then (gx_lt (gx_up σ 724 v1.toNatClampNeg ((σ 724 v1.toNatClampNeg) - v2)) (fun σ_5 => some (v1, σ_5))) else none) else none)) else (gx_bd (fn_Mo_isOpen N v3 σ) (fun r_8 σ_6 => if r_8 = 0 then (fn_Mo_choose_L6 N n (v3 + 1) v2 v1 σ_6) else (if (σ_6 722 0) = 0 then (if 0 ≤ v3 ∧ v3 < 4 then (if 0 ≤ v3 ∧ v3 < 4 then (if 0 ≤ v3 ∧ v3 < 4 then (gx_lt (gx_up σ_6 724 v3.toNatClampNeg ((σ_6 724 v3.toNatClampNeg) + (σ_6 723 v3.toNatClampNeg))) (fun σ_14 => if 0 ≤ v3 ∧ v3 < 4 then (if v1 < 0 then (fn_Mo_choose_L6 N n (v3 + 1) (v2 + (σ_14 723 v3.toNatClampNeg)) v3 σ_14) else (if 0 ≤ v3 ∧ v3 < 4 then (if 0 ≤ v1 ∧ v1 < 4 then (if (σ_14 724 v3.toNatClampNeg) ≤ (σ_14 724 v1.toNatClampNeg) then (fn_Mo_choose_L6 N n (v3 + 1) (v2 + (σ_14 723 v3.toNatClampNeg)) v1 σ_14) else (fn_Mo_choose_L6 N n (v3 + 1) (v2 + (σ_14 723 v3.toNatClampNeg)) v3 σ_14)) else none) else none)) else none)) else none) else none) else none) else (some (v3, σ_6)))))
def fn_Mo_choose (N : Nat) (σ : gx_M) : Option (Int32 × gx_M) := fn_Mo_choose_L6 N N ((0 : Int32)) ((0 : Int32)) ((-1 : Int32)) σ
set_option maxHeartbeats 4000000 in
set_option maxRecDepth 100000 in
theorem wl_Mo_choose_L6 {p : Program} {l : Launch} {e : Env} {s : State} {m : MethodId} {args : Array Value} {below : List Frame} {meth : Method} {c : Code} {D : va_G} {dA : Nat → ClassId} {adr : Nat → Nat} {A : Nat → Prop} (G : gx_G p m c b_Mo_choose 4 s args gx_tb R_Mo D dA) (hr : meth.sig.returnType = some .int) (hlocks : meth.locks = false) (hA : gx_A A adr) (N : Nat) (res : Int32 × gx_M) : ∀ (n : Nat) (v3 : Int32) (v2 : Int32) (v1 : Int32) (σ : gx_M) (H : Heap) (locs : List Loc) (ls : Array Slot), fn_Mo_choose_L6 N n v3 v2 v1 σ = some res → gx_I D dA adr A s.heap σ H locs → lv_has ls 4 [(3, .int v3), (2, .int v2), (1, .int v1), (0, .ref (adr 722))] → W p l e (headSpec w_Mo_choose rm_Mo_choose).room s m args below meth c H locs 0 0 (MQ below (gx_Q D dA adr A (some (.int res.1)) res.2) args s 0 0 A) (F0 m 6 ls []) := by
  obtain ⟨⟨hx, hb, hml, hown, ht⟩, hK⟩ := id G
  intro n
  induction n with
  | zero =>
    intro v3 v2 v1 σ H locs ls hf
    cases hf
  | succ n ih =>
    intro v3 v2 v1 σ H locs ls hf hI hl
    rw [fn_Mo_choose_L6] at hf
    refine lv_iload_n hx hb d_Mo_choose_6 rfl (lv_at hl 0 rfl) ?_
    refine lv_iconst (v := 4) hx hb d_Mo_choose_7 (by decide) ?_
    refine lv_icmp_ge (tgt := 82) hx hb d_Mo_choose_8 (by decide) (fun c_1 => ?_) (fun c_1 => ?_)
    · replace hf := (if_pos c_1).symm.trans hf
      refine lv_iload_n hx hb d_Mo_choose_82 rfl (lv_at hl 2 rfl) ?_
      refine lv_if_lt (tgt := 96) hx hb d_Mo_choose_83 (by decide) (fun c_2 => ?_) (fun c_2 => ?_)
      · replace hf := (if_pos c_2).symm.trans hf
        refine lv_iload_n hx hb d_Mo_choose_96 rfl (lv_at hl 2 rfl) ?_
        cases hf
        exact W.iret hx hb hr (gx_F hI) hI.2.2.2 d_Mo_choose_97
      · replace hf := (if_neg c_2).symm.trans hf
        refine lv_aload_n hx hb d_Mo_choose_86 rfl (lv_at hl 3 rfl) ?_
        refine gx_getR (o' := 724) G hI cl_Mo (by decide) 3 (by decide) (by decide) fl_Mo_17 d_Mo_choose_87 ?_
        refine lv_iload_n hx hb d_Mo_choose_90 rfl (lv_at hl 2 rfl) ?_
        refine lv_dup2_11 hx hb d_Mo_choose_91 rfl rfl ?_
        obtain ⟨hi_3, hf⟩ := gx_gd hf
        refine gx_ild G hI (by decide) (gx_in hi_3 (by decide)) d_Mo_choose_92 ?_
        refine lv_iload_n hx hb d_Mo_choose_93 rfl (lv_at hl 1 rfl) ?_
        refine lv_isub hx hb d_Mo_choose_94 ?_
        obtain ⟨hi_4, hf⟩ := gx_gd hf
        obtain ⟨σ_5, eσ_5, hf⟩ := gx_lte hf
        refine gx_ist G hI hA (by decide) (gx_in hi_4 (by decide)) eσ_5 d_Mo_choose_95 (fun H locs hI => ?_)
        refine lv_iload_n hx hb d_Mo_choose_96 rfl (lv_at hl 2 rfl) ?_
        cases hf
        exact W.iret hx hb hr (gx_F hI) hI.2.2.2 d_Mo_choose_97
    · replace hf := (if_neg c_1).symm.trans hf
      refine lv_aload_n hx hb d_Mo_choose_11 rfl (lv_at hl 3 rfl) ?_
      refine lv_iload_n hx hb d_Mo_choose_12 rfl (lv_at hl 0 rfl) ?_
      obtain ⟨r_8, σ_6, hc_7, hf⟩ := gx_bde hf
      refine gx_go (va_runV (As := [.int v3]) (rest := []) G.1 (ct_Mo_isOpen l D dA adr A hA N v3 σ r_8 σ_6 hc_7) (cwV 1 ht gi_Mo_107 rfl rfl rfl (by decide +kernel) ⟨Nat.le_of_ble_eq_true rfl, Nat.le_of_ble_eq_true rfl⟩) (gx_preV G hI cl_Mo (by decide)) rfl rfl hl.1 rfl (lv_room (Nat.le_of_ble_eq_true rfl)) d_Mo_choose_13 ⟨Nat.zero_le _, Nat.zero_le _⟩) hI (st1 := [.int r_8]) rfl (fun H locs hI => ?_)
      refine lv_if_ne (tgt := 22) hx hb d_Mo_choose_16 (by decide) (fun c_9 => ?_) (fun c_9 => ?_)
      · replace hf := (if_neg c_9).symm.trans hf
        refine lv_aload_n hx hb d_Mo_choose_22 rfl (lv_at hl 3 rfl) ?_
        refine gx_getI G hI cl_Mo (by decide) 0 (by decide) (by decide) fl_Mo_57 d_Mo_choose_23 ?_
        refine lv_if_eq (tgt := 31) hx hb d_Mo_choose_26 (by decide) (fun c_10 => ?_) (fun c_10 => ?_)
        · replace hf := (if_pos c_10).symm.trans hf
          refine lv_aload_n hx hb d_Mo_choose_31 rfl (lv_at hl 3 rfl) ?_
          refine gx_getR (o' := 724) G hI cl_Mo (by decide) 3 (by decide) (by decide) fl_Mo_17 d_Mo_choose_32 ?_
          refine lv_iload_n hx hb d_Mo_choose_35 rfl (lv_at hl 0 rfl) ?_
          refine lv_dup2_11 hx hb d_Mo_choose_36 rfl rfl ?_
          obtain ⟨hi_11, hf⟩ := gx_gd hf
          refine gx_ild G hI (by decide) (gx_in hi_11 (by decide)) d_Mo_choose_37 ?_
          refine lv_aload_n hx hb d_Mo_choose_38 rfl (lv_at hl 3 rfl) ?_
          refine gx_getR (o' := 723) G hI cl_Mo (by decide) 2 (by decide) (by decide) fl_Mo_13 d_Mo_choose_39 ?_
          refine lv_iload_n hx hb d_Mo_choose_42 rfl (lv_at hl 0 rfl) ?_
          obtain ⟨hi_12, hf⟩ := gx_gd hf
          refine gx_ild G hI (by decide) (gx_in hi_12 (by decide)) d_Mo_choose_43 ?_
          refine lv_iadd hx hb d_Mo_choose_44 ?_
          obtain ⟨hi_13, hf⟩ := gx_gd hf
          obtain ⟨σ_14, eσ_14, hf⟩ := gx_lte hf
          refine gx_ist G hI hA (by decide) (gx_in hi_13 (by decide)) eσ_14 d_Mo_choose_45 (fun H locs hI => ?_)
          refine lv_iload_n hx hb d_Mo_choose_46 rfl (lv_at hl 1 rfl) ?_
          refine lv_aload_n hx hb d_Mo_choose_47 rfl (lv_at hl 3 rfl) ?_
          refine gx_getR (o' := 723) G hI cl_Mo (by decide) 2 (by decide) (by decide) fl_Mo_13 d_Mo_choose_48 ?_
          refine lv_iload_n hx hb d_Mo_choose_51 rfl (lv_at hl 0 rfl) ?_
          obtain ⟨hi_15, hf⟩ := gx_gd hf
          refine gx_ild G hI (by decide) (gx_in hi_15 (by decide)) d_Mo_choose_52 ?_
          refine lv_iadd hx hb d_Mo_choose_53 ?_
          refine lv_istore_n (i := 2) (lv' := [(2, .int (v2 + (σ_14 723 v3.toNatClampNeg))), (3, .int v3), (1, .int v1), (0, .ref (adr 722))]) hx hb d_Mo_choose_54 rfl hl (by decide) rfl (fun ls hl => ?_)
          refine lv_iload_n hx hb d_Mo_choose_55 rfl (lv_at hl 2 rfl) ?_
          refine lv_if_lt (tgt := 74) hx hb d_Mo_choose_56 (by decide) (fun c_16 => ?_) (fun c_16 => ?_)
          · replace hf := (if_pos c_16).symm.trans hf
            refine lv_iload_n hx hb d_Mo_choose_74 rfl (lv_at hl 1 rfl) ?_
            refine lv_istore_n (i := 1) (lv' := [(1, .int v3), (2, .int (v2 + (σ_14 723 v3.toNatClampNeg))), (3, .int v3), (0, .ref (adr 722))]) hx hb d_Mo_choose_75 rfl hl (by decide) rfl (fun ls hl => ?_)
            refine lv_iinc (v := v3 + 1) (lv' := [(3, .int (v3 + 1)), (1, .int v3), (2, .int (v2 + (σ_14 723 v3.toNatClampNeg))), (0, .ref (adr 722))]) hx hb d_Mo_choose_76 hl (k := 2) rfl rfl (by decide) rfl (fun ls hl => ?_)
            refine lv_goto (tgt := 6) hx hb d_Mo_choose_79 (by decide) ?_
            exact ih (v3 + 1) (v2 + (σ_14 723 v3.toNatClampNeg)) v3 σ_14 H locs ls hf hI (lv_sub hl [0, 2, 1, 3] rfl)
          · replace hf := (if_neg c_16).symm.trans hf
            refine lv_aload_n hx hb d_Mo_choose_59 rfl (lv_at hl 3 rfl) ?_
            refine gx_getR (o' := 724) G hI cl_Mo (by decide) 3 (by decide) (by decide) fl_Mo_17 d_Mo_choose_60 ?_
            refine lv_iload_n hx hb d_Mo_choose_63 rfl (lv_at hl 1 rfl) ?_
            obtain ⟨hi_17, hf⟩ := gx_gd hf
            refine gx_ild G hI (by decide) (gx_in hi_17 (by decide)) d_Mo_choose_64 ?_
            refine lv_aload_n hx hb d_Mo_choose_65 rfl (lv_at hl 3 rfl) ?_
            refine gx_getR (o' := 724) G hI cl_Mo (by decide) 3 (by decide) (by decide) fl_Mo_17 d_Mo_choose_66 ?_
            refine lv_iload_n hx hb d_Mo_choose_69 rfl (lv_at hl 2 rfl) ?_
            obtain ⟨hi_18, hf⟩ := gx_gd hf
            refine gx_ild G hI (by decide) (gx_in hi_18 (by decide)) d_Mo_choose_70 ?_
            refine lv_icmp_le (tgt := 76) hx hb d_Mo_choose_71 (by decide) (fun c_19 => ?_) (fun c_19 => ?_)
            · replace hf := (if_pos c_19).symm.trans hf
              refine lv_iinc (v := v3 + 1) (lv' := [(3, .int (v3 + 1)), (2, .int (v2 + (σ_14 723 v3.toNatClampNeg))), (1, .int v1), (0, .ref (adr 722))]) hx hb d_Mo_choose_76 hl (k := 1) rfl rfl (by decide) rfl (fun ls hl => ?_)
              refine lv_goto (tgt := 6) hx hb d_Mo_choose_79 (by decide) ?_
              exact ih (v3 + 1) (v2 + (σ_14 723 v3.toNatClampNeg)) v1 σ_14 H locs ls hf hI (lv_sub hl [0, 1, 2, 3] rfl)
            · replace hf := (if_neg c_19).symm.trans hf
              refine lv_iload_n hx hb d_Mo_choose_74 rfl (lv_at hl 1 rfl) ?_
              refine lv_istore_n (i := 1) (lv' := [(1, .int v3), (2, .int (v2 + (σ_14 723 v3.toNatClampNeg))), (3, .int v3), (0, .ref (adr 722))]) hx hb d_Mo_choose_75 rfl hl (by decide) rfl (fun ls hl => ?_)
              refine lv_iinc (v := v3 + 1) (lv' := [(3, .int (v3 + 1)), (1, .int v3), (2, .int (v2 + (σ_14 723 v3.toNatClampNeg))), (0, .ref (adr 722))]) hx hb d_Mo_choose_76 hl (k := 2) rfl rfl (by decide) rfl (fun ls hl => ?_)
              refine lv_goto (tgt := 6) hx hb d_Mo_choose_79 (by decide) ?_
              exact ih (v3 + 1) (v2 + (σ_14 723 v3.toNatClampNeg)) v3 σ_14 H locs ls hf hI (lv_sub hl [0, 2, 1, 3] rfl)
        · replace hf := (if_neg c_10).symm.trans hf
          refine lv_iload_n hx hb d_Mo_choose_29 rfl (lv_at hl 0 rfl) ?_
          cases hf
          exact W.iret hx hb hr (gx_F hI) hI.2.2.2 d_Mo_choose_30
      · replace hf := (if_pos c_9).symm.trans hf
        refine lv_goto (tgt := 76) hx hb d_Mo_choose_19 (by decide) ?_
        refine lv_iinc (v := v3 + 1) (lv' := [(3, .int (v3 + 1)), (2, .int v2), (1, .int v1), (0, .ref (adr 722))]) hx hb d_Mo_choose_76 hl (k := 0) rfl rfl (by decide) rfl (fun ls hl => ?_)
        refine lv_goto (tgt := 6) hx hb d_Mo_choose_79 (by decide) ?_
        exact ih (v3 + 1) v2 v1 σ_6 H locs ls hf hI (lv_sub hl [0, 1, 2, 3] rfl)
set_option maxHeartbeats 4000000 in
set_option maxRecDepth 100000 in
theorem ct_Mo_choose (l : Launch) (D : va_G) (dA : Nat → ClassId) (adr : Nat → Nat) (A : Nat → Prop) (hA : gx_A A adr) (N : Nat) (σ : gx_M) (r : Int32) (σ' : gx_M) (hf : fn_Mo_choose N σ = some (r, σ')) : Met l y_Mo_choose w_Mo_choose rm_Mo_choose (gx_Pc D dA adr σ [.ref (adr 722)]) (gx_Q D dA adr A (some (.int r)) σ') 0 0 A := by
  refine Met.ofW (cc := b_Mo_choose) (maxL := 4) (ret := some .int) (by decide) rfl ?_
  intro p e s m args below meth c s₁ B hml hv
  obtain ⟨rfl, hP, hK⟩ := hv
  have hx := B.exec
  have hb := B.bytes
  have hr := B.returns
  have hlocks := B.notSynchronized
  have ht : ∀ w ∈ gx_tb, w.before _ s = true := fun w h => atoms_spec (ws := w_Mo_choose) B.pre w (List.mem_cons_of_mem _ h)
  have hown : s.vm.findClass R_Mo = some m.cls := findClass_of_methodNamed B.named
  have G : gx_G p m c b_Mo_choose 4 s _ gx_tb R_Mo D dA := ⟨⟨hx, hb, hml, hown, ht⟩, hK⟩
  have hI : gx_I D dA adr A s.heap σ s.heap [] := ⟨hP, va_S.rf⟩
  have hl := lv_entry ([.ref (adr 722)]) (n := 4) (Nat.le_of_ble_eq_true rfl)
  rw [lg_entry_eq]
  generalize (lg_sl ([.ref (adr 722)]) ++ List.replicate (4 - (lg_sl ([.ref (adr 722)])).length) Slot.unset).toArray = ls at hl ⊢
  have hl : lv_has ls 4 [(0, .ref (adr 722))] := hl
  rw [fn_Mo_choose] at hf
  refine lv_iconst (v := (-1)) hx hb d_Mo_choose_0 (by decide) ?_
  refine lv_istore_n (i := 1) (lv' := [(1, .int ((-1 : Int32))), (0, .ref (adr 722))]) hx hb d_Mo_choose_1 rfl hl (by decide) rfl (fun ls hl => ?_)
  refine lv_iconst (v := 0) hx hb d_Mo_choose_2 (by decide) ?_
  refine lv_istore_n (i := 2) (lv' := [(2, .int ((0 : Int32))), (1, .int ((-1 : Int32))), (0, .ref (adr 722))]) hx hb d_Mo_choose_3 rfl hl (by decide) rfl (fun ls hl => ?_)
  refine lv_iconst (v := 0) hx hb d_Mo_choose_4 (by decide) ?_
  refine lv_istore_n (i := 3) (lv' := [(3, .int ((0 : Int32))), (2, .int ((0 : Int32))), (1, .int ((-1 : Int32))), (0, .ref (adr 722))]) hx hb d_Mo_choose_5 rfl hl (by decide) rfl (fun ls hl => ?_)
  exact wl_Mo_choose_L6 G hr hlocks hA N _ N ((0 : Int32)) ((0 : Int32)) ((-1 : Int32)) σ _ _ ls hf hI (lv_sub hl [0, 1, 2, 3] rfl)
def fn_Mo_holding_L14 (N : Nat) (u1 : Int32) : Nat → Int32 → gx_M → Option (Int32 × gx_M)
  | 0, _, _ => none
  | n + 1, v2, σ => if (σ 722 9) ≤ v2 then (some ((-4 : Int32), σ)) else (gx_bd (fn_Mo_of N v2 ((9 : Int32)) σ) (fun r_8 σ_6 => if r_8 = ((2 : Int32)) then (gx_bd (fn_Mo_of N v2 ((11 : Int32)) σ_6) (fun r_12 σ_10 => if r_12 = u1 then (some (v2, σ_10)) else (fn_Mo_holding_L14 N u1 n (v2 + 1) σ_10))) else (fn_Mo_holding_L14 N u1 n (v2 + 1) σ_6)))
def fn_Mo_holding (N : Nat) (p0 : Int32) (σ : gx_M) : Option (Int32 × gx_M) := gx_bd (fn_Mo_out N p0 ((0 : Int32)) ((5 : Int32)) σ) (fun r_3 σ_1 => if r_3 = 0 then (fn_Mo_holding_L14 N p0 N ((0 : Int32)) σ_1) else (some ((-1 : Int32), σ_1)))
set_option maxHeartbeats 4000000 in
set_option maxRecDepth 100000 in
theorem wl_Mo_holding_L14 {p : Program} {l : Launch} {e : Env} {s : State} {m : MethodId} {args : Array Value} {below : List Frame} {meth : Method} {c : Code} {D : va_G} {dA : Nat → ClassId} {adr : Nat → Nat} {A : Nat → Prop} (G : gx_G p m c b_Mo_holding 3 s args gx_tb R_Mo D dA) (hr : meth.sig.returnType = some .int) (hlocks : meth.locks = false) (hA : gx_A A adr) (N : Nat) (res : Int32 × gx_M) (u1 : Int32) : ∀ (n : Nat) (v2 : Int32) (σ : gx_M) (H : Heap) (locs : List Loc) (ls : Array Slot), fn_Mo_holding_L14 N u1 n v2 σ = some res → gx_I D dA adr A s.heap σ H locs → lv_has ls 3 [(2, .int v2), (0, .ref (adr 722)), (1, .int u1)] → W p l e (headSpec w_Mo_holding rm_Mo_holding).room s m args below meth c H locs 0 0 (MQ below (gx_Q D dA adr A (some (.int res.1)) res.2) args s 0 0 A) (F0 m 14 ls []) := by
  obtain ⟨⟨hx, hb, hml, hown, ht⟩, hK⟩ := id G
  intro n
  induction n with
  | zero =>
    intro v2 σ H locs ls hf
    cases hf
  | succ n ih =>
    intro v2 σ H locs ls hf hI hl
    rw [fn_Mo_holding_L14] at hf
    refine lv_iload_n hx hb d_Mo_holding_14 rfl (lv_at hl 0 rfl) ?_
    refine lv_aload_n hx hb d_Mo_holding_15 rfl (lv_at hl 1 rfl) ?_
    refine gx_getI G hI cl_Mo (by decide) 9 (by decide) (by decide) fl_Mo_35 d_Mo_holding_16 ?_
    refine lv_icmp_ge (tgt := 52) hx hb d_Mo_holding_19 (by decide) (fun c_5 => ?_) (fun c_5 => ?_)
    · replace hf := (if_pos c_5).symm.trans hf
      refine lv_bipush (v := (-4)) hx hb d_Mo_holding_52 (by decide) ?_
      cases hf
      exact W.iret hx hb hr (gx_F hI) hI.2.2.2 d_Mo_holding_54
    · replace hf := (if_neg c_5).symm.trans hf
      refine lv_aload_n hx hb d_Mo_holding_22 rfl (lv_at hl 1 rfl) ?_
      refine lv_iload_n hx hb d_Mo_holding_23 rfl (lv_at hl 0 rfl) ?_
      refine lv_bipush (v := 9) hx hb d_Mo_holding_24 (by decide) ?_
      obtain ⟨r_8, σ_6, hc_7, hf⟩ := gx_bde hf
      refine gx_go (va_runV (As := [.int v2, .int ((9 : Int32))]) (rest := []) G.1 (ct_Mo_of l D dA adr A hA N v2 ((9 : Int32)) σ r_8 σ_6 hc_7) (cwV 2 ht gi_Mo_65 rfl rfl rfl (by decide +kernel) ⟨Nat.le_of_ble_eq_true rfl, Nat.le_of_ble_eq_true rfl⟩) (gx_preV G hI cl_Mo (by decide)) rfl rfl hl.1 rfl (lv_room (Nat.le_of_ble_eq_true rfl)) d_Mo_holding_26 ⟨Nat.zero_le _, Nat.zero_le _⟩) hI (st1 := [.int r_8]) rfl (fun H locs hI => ?_)
      refine lv_iconst (v := 2) hx hb d_Mo_holding_29 (by decide) ?_
      refine lv_icmp_ne (tgt := 46) hx hb d_Mo_holding_30 (by decide) (fun c_9 => ?_) (fun c_9 => ?_)
      · replace hf := (if_neg c_9).symm.trans hf
        refine lv_iinc (v := v2 + 1) (lv' := [(2, .int (v2 + 1)), (0, .ref (adr 722)), (1, .int u1)]) hx hb d_Mo_holding_46 hl (k := 0) rfl rfl (by decide) rfl (fun ls hl => ?_)
        refine lv_goto (tgt := 14) hx hb d_Mo_holding_49 (by decide) ?_
        exact ih (v2 + 1) σ_6 H locs ls hf hI (lv_sub hl [0, 1, 2] rfl)
      · replace hf := (if_pos c_9).symm.trans hf
        refine lv_aload_n hx hb d_Mo_holding_33 rfl (lv_at hl 1 rfl) ?_
        refine lv_iload_n hx hb d_Mo_holding_34 rfl (lv_at hl 0 rfl) ?_
        refine lv_bipush (v := 11) hx hb d_Mo_holding_35 (by decide) ?_
        obtain ⟨r_12, σ_10, hc_11, hf⟩ := gx_bde hf
        refine gx_go (va_runV (As := [.int v2, .int ((11 : Int32))]) (rest := []) G.1 (ct_Mo_of l D dA adr A hA N v2 ((11 : Int32)) σ_6 r_12 σ_10 hc_11) (cwV 2 ht gi_Mo_65 rfl rfl rfl (by decide +kernel) ⟨Nat.le_of_ble_eq_true rfl, Nat.le_of_ble_eq_true rfl⟩) (gx_preV G hI cl_Mo (by decide)) rfl rfl hl.1 rfl (lv_room (Nat.le_of_ble_eq_true rfl)) d_Mo_holding_37 ⟨Nat.zero_le _, Nat.zero_le _⟩) hI (st1 := [.int r_12]) rfl (fun H locs hI => ?_)
        refine lv_iload_n hx hb d_Mo_holding_40 rfl (lv_at hl 2 rfl) ?_
        refine lv_icmp_ne (tgt := 46) hx hb d_Mo_holding_41 (by decide) (fun c_13 => ?_) (fun c_13 => ?_)
        · replace hf := (if_neg c_13).symm.trans hf
          refine lv_iinc (v := v2 + 1) (lv' := [(2, .int (v2 + 1)), (0, .ref (adr 722)), (1, .int u1)]) hx hb d_Mo_holding_46 hl (k := 0) rfl rfl (by decide) rfl (fun ls hl => ?_)
          refine lv_goto (tgt := 14) hx hb d_Mo_holding_49 (by decide) ?_
          exact ih (v2 + 1) σ_10 H locs ls hf hI (lv_sub hl [0, 1, 2] rfl)
        · replace hf := (if_pos c_13).symm.trans hf
          refine lv_iload_n hx hb d_Mo_holding_44 rfl (lv_at hl 0 rfl) ?_
          cases hf
          exact W.iret hx hb hr (gx_F hI) hI.2.2.2 d_Mo_holding_45
set_option maxHeartbeats 4000000 in
set_option maxRecDepth 100000 in
theorem ct_Mo_holding (l : Launch) (D : va_G) (dA : Nat → ClassId) (adr : Nat → Nat) (A : Nat → Prop) (hA : gx_A A adr) (N : Nat) (p0 : Int32) (σ : gx_M) (r : Int32) (σ' : gx_M) (hf : fn_Mo_holding N p0 σ = some (r, σ')) : Met l y_Mo_holding w_Mo_holding rm_Mo_holding (gx_Pc D dA adr σ [.ref (adr 722), .int p0]) (gx_Q D dA adr A (some (.int r)) σ') 0 0 A := by
  refine Met.ofW (cc := b_Mo_holding) (maxL := 3) (ret := some .int) (by decide) rfl ?_
  intro p e s m args below meth c s₁ B hml hv
  obtain ⟨rfl, hP, hK⟩ := hv
  have hx := B.exec
  have hb := B.bytes
  have hr := B.returns
  have hlocks := B.notSynchronized
  have ht : ∀ w ∈ gx_tb, w.before _ s = true := fun w h => atoms_spec (ws := w_Mo_holding) B.pre w (List.mem_cons_of_mem _ h)
  have hown : s.vm.findClass R_Mo = some m.cls := findClass_of_methodNamed B.named
  have G : gx_G p m c b_Mo_holding 3 s _ gx_tb R_Mo D dA := ⟨⟨hx, hb, hml, hown, ht⟩, hK⟩
  have hI : gx_I D dA adr A s.heap σ s.heap [] := ⟨hP, va_S.rf⟩
  have hl := lv_entry ([.ref (adr 722), .int p0]) (n := 3) (Nat.le_of_ble_eq_true rfl)
  rw [lg_entry_eq]
  generalize (lg_sl ([.ref (adr 722), .int p0]) ++ List.replicate (3 - (lg_sl ([.ref (adr 722), .int p0])).length) Slot.unset).toArray = ls at hl ⊢
  have hl : lv_has ls 3 [(0, .ref (adr 722)), (1, .int p0)] := hl
  rw [fn_Mo_holding] at hf
  refine lv_aload_n hx hb d_Mo_holding_0 rfl (lv_at hl 0 rfl) ?_
  refine lv_iload_n hx hb d_Mo_holding_1 rfl (lv_at hl 1 rfl) ?_
  refine lv_iconst (v := 0) hx hb d_Mo_holding_2 (by decide) ?_
  refine lv_iconst (v := 5) hx hb d_Mo_holding_3 (by decide) ?_
  obtain ⟨r_3, σ_1, hc_2, hf⟩ := gx_bde hf
  refine gx_go (va_runV (As := [.int p0, .int ((0 : Int32)), .int ((5 : Int32))]) (rest := []) G.1 (ct_Mo_out l D dA adr A hA N p0 ((0 : Int32)) ((5 : Int32)) σ r_3 σ_1 hc_2) (cwV 3 ht gi_Mo_80 rfl rfl rfl (by decide +kernel) ⟨Nat.le_of_ble_eq_true rfl, Nat.le_of_ble_eq_true rfl⟩) (gx_preV G hI cl_Mo (by decide)) rfl rfl hl.1 rfl (lv_room (Nat.le_of_ble_eq_true rfl)) d_Mo_holding_4 ⟨Nat.zero_le _, Nat.zero_le _⟩) hI (st1 := [.int r_3]) rfl (fun H locs hI => ?_)
  refine lv_if_eq (tgt := 12) hx hb d_Mo_holding_7 (by decide) (fun c_4 => ?_) (fun c_4 => ?_)
  · replace hf := (if_pos c_4).symm.trans hf
    refine lv_iconst (v := 0) hx hb d_Mo_holding_12 (by decide) ?_
    refine lv_istore_n (i := 2) (lv' := [(2, .int ((0 : Int32))), (0, .ref (adr 722)), (1, .int p0)]) hx hb d_Mo_holding_13 rfl hl (by decide) rfl (fun ls hl => ?_)
    exact wl_Mo_holding_L14 G hr hlocks hA N _ p0 N ((0 : Int32)) σ_1 _ _ ls hf hI (lv_sub hl [0, 1, 2] rfl)
  · replace hf := (if_neg c_4).symm.trans hf
    refine lv_iconst (v := (-1)) hx hb d_Mo_holding_10 (by decide) ?_
    cases hf
    exact W.iret hx hb hr (gx_F hI) hI.2.2.2 d_Mo_holding_11
