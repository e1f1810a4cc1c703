theorem d_Mo_out_0 : decode b_Mo_out 0 = .ok (.iload_n 1, 1) := by decide +kernel
theorem d_Mo_out_1 : decode b_Mo_out 1 = .ok (.iload_n 2, 1) := by decide +kernel
theorem d_Mo_out_2 : decode b_Mo_out 2 = .ok (.if_icmp .lt 8, 3) := by decide +kernel
theorem d_Mo_out_5 : decode b_Mo_out 5 = .ok (.iload_n 1, 1) := by decide +kernel
theorem d_Mo_out_6 : decode b_Mo_out 6 = .ok (.iload_n 3, 1) := by decide +kernel
theorem d_Mo_out_7 : decode b_Mo_out 7 = .ok (.if_icmp .le 7, 3) := by decide +kernel
theorem d_Mo_out_10 : decode b_Mo_out 10 = .ok (.iconst 1, 1) := by decide +kernel
theorem d_Mo_out_11 : decode b_Mo_out 11 = .ok (.goto 4, 3) := by decide +kernel
theorem d_Mo_out_14 : decode b_Mo_out 14 = .ok (.iconst 0, 1) := by decide +kernel
theorem d_Mo_out_15 : decode b_Mo_out 15 = .ok (.ireturn, 1) := by decide +kernel
theorem d_Mo_no_0 : decode b_Mo_no 0 = .ok (.iload_n 1, 1) := by decide +kernel
theorem d_Mo_no_1 : decode b_Mo_no 1 = .ok (.ifCond .lt 11, 3) := by decide +kernel
theorem d_Mo_no_4 : decode b_Mo_no 4 = .ok (.iload_n 1, 1) := by decide +kernel
theorem d_Mo_no_5 : decode b_Mo_no 5 = .ok (.aload_n 0, 1) := by decide +kernel
theorem d_Mo_no_6 : decode b_Mo_no 6 = .ok (.getfield 35, 3) := by decide +kernel
theorem d_Mo_no_9 : decode b_Mo_no 9 = .ok (.if_icmp .lt 7, 3) := by decide +kernel
theorem d_Mo_no_12 : decode b_Mo_no 12 = .ok (.iconst 1, 1) := by decide +kernel
theorem d_Mo_no_13 : decode b_Mo_no 13 = .ok (.goto 4, 3) := by decide +kernel
theorem d_Mo_no_16 : decode b_Mo_no 16 = .ok (.iconst 0, 1) := by decide +kernel
theorem d_Mo_no_17 : decode b_Mo_no 17 = .ok (.ireturn, 1) := by decide +kernel
theorem d_Mo_of_0 : decode b_Mo_of 0 = .ok (.aload_n 0, 1) := by decide +kernel
theorem d_Mo_of_1 : decode b_Mo_of 1 = .ok (.getfield 44, 3) := by decide +kernel
theorem d_Mo_of_4 : decode b_Mo_of 4 = .ok (.iload_n 1, 1) := by decide +kernel
theorem d_Mo_of_5 : decode b_Mo_of 5 = .ok (.bipush 13, 2) := by decide +kernel
theorem d_Mo_of_7 : decode b_Mo_of 7 = .ok (.imul, 1) := by decide +kernel
theorem d_Mo_of_8 : decode b_Mo_of 8 = .ok (.iload_n 2, 1) := by decide +kernel
theorem d_Mo_of_9 : decode b_Mo_of 9 = .ok (.iadd, 1) := by decide +kernel
theorem d_Mo_of_10 : decode b_Mo_of 10 = .ok (.iaload, 1) := by decide +kernel
theorem d_Mo_of_11 : decode b_Mo_of 11 = .ok (.ireturn, 1) := by decide +kernel
theorem d_Mo_set_0 : decode b_Mo_set 0 = .ok (.aload_n 0, 1) := by decide +kernel
theorem d_Mo_set_1 : decode b_Mo_set 1 = .ok (.getfield 44, 3) := by decide +kernel
theorem d_Mo_set_4 : decode b_Mo_set 4 = .ok (.iload_n 1, 1) := by decide +kernel
theorem d_Mo_set_5 : decode b_Mo_set 5 = .ok (.bipush 13, 2) := by decide +kernel
theorem d_Mo_set_7 : decode b_Mo_set 7 = .ok (.imul, 1) := by decide +kernel
theorem d_Mo_set_8 : decode b_Mo_set 8 = .ok (.iload_n 2, 1) := by decide +kernel
theorem d_Mo_set_9 : decode b_Mo_set 9 = .ok (.iadd, 1) := by decide +kernel
theorem d_Mo_set_10 : decode b_Mo_set 10 = .ok (.iload_n 3, 1) := by decide +kernel
theorem d_Mo_set_11 : decode b_Mo_set 11 = .ok (.iastore, 1) := by decide +kernel
theorem d_Mo_set_12 : decode b_Mo_set 12 = .ok (.return_, 1) := by decide +kernel
theorem d_Mo_store_0 : decode b_Mo_store 0 = .ok (.iconst 0, 1) := by decide +kernel
theorem d_Mo_store_1 : decode b_Mo_store 1 = .ok (.istore_n 2, 1) := by decide +kernel
theorem d_Mo_store_2 : decode b_Mo_store 2 = .ok (.iload_n 2, 1) := by decide +kernel
theorem d_Mo_store_3 : decode b_Mo_store 3 = .ok (.sipush 520, 3) := by decide +kernel
theorem d_Mo_store_6 : decode b_Mo_store 6 = .ok (.if_icmp .ge 27, 3) := by decide +kernel
theorem d_Mo_store_9 : decode b_Mo_store 9 = .ok (.aload_n 0, 1) := by decide +kernel
theorem d_Mo_store_10 : decode b_Mo_store 10 = .ok (.getfield 47, 3) := by decide +kernel
theorem d_Mo_store_13 : decode b_Mo_store 13 = .ok (.iload_n 1, 1) := by decide +kernel
theorem d_Mo_store_14 : decode b_Mo_store 14 = .ok (.sipush 520, 3) := by decide +kernel
theorem d_Mo_store_17 : decode b_Mo_store 17 = .ok (.imul, 1) := by decide +kernel
theorem d_Mo_store_18 : decode b_Mo_store 18 = .ok (.iload_n 2, 1) := by decide +kernel
theorem d_Mo_store_19 : decode b_Mo_store 19 = .ok (.iadd, 1) := by decide +kernel
theorem d_Mo_store_20 : decode b_Mo_store 20 = .ok (.aload_n 0, 1) := by decide +kernel
theorem d_Mo_store_21 : decode b_Mo_store 21 = .ok (.getfield 44, 3) := by decide +kernel
theorem d_Mo_store_24 : decode b_Mo_store 24 = .ok (.iload_n 2, 1) := by decide +kernel
theorem d_Mo_store_25 : decode b_Mo_store 25 = .ok (.iaload, 1) := by decide +kernel
theorem d_Mo_store_26 : decode b_Mo_store 26 = .ok (.iastore, 1) := by decide +kernel
theorem d_Mo_store_27 : decode b_Mo_store 27 = .ok (.iinc 2 1, 3) := by decide +kernel
theorem d_Mo_store_30 : decode b_Mo_store 30 = .ok (.goto (-28), 3) := by decide +kernel
theorem d_Mo_store_33 : decode b_Mo_store 33 = .ok (.aload_n 0, 1) := by decide +kernel
theorem d_Mo_store_34 : decode b_Mo_store 34 = .ok (.getfield 50, 3) := by decide +kernel
theorem d_Mo_store_37 : decode b_Mo_store 37 = .ok (.iload_n 1, 1) := by decide +kernel
theorem d_Mo_store_38 : decode b_Mo_store 38 = .ok (.aload_n 0, 1) := by decide +kernel
theorem d_Mo_store_39 : decode b_Mo_store 39 = .ok (.getfield 35, 3) := by decide +kernel
theorem d_Mo_store_42 : decode b_Mo_store 42 = .ok (.iastore, 1) := by decide +kernel
theorem d_Mo_store_43 : decode b_Mo_store 43 = .ok (.return_, 1) := by decide +kernel
theorem d_Mo_note_0 : decode b_Mo_note 0 = .ok (.aload_n 0, 1) := by decide +kernel
theorem d_Mo_note_1 : decode b_Mo_note 1 = .ok (.dup, 1) := by decide +kernel
theorem d_Mo_note_2 : decode b_Mo_note 2 = .ok (.getfield 41, 3) := by decide +kernel
theorem d_Mo_note_5 : decode b_Mo_note 5 = .ok (.iconst 1, 1) := by decide +kernel
theorem d_Mo_note_6 : decode b_Mo_note 6 = .ok (.iadd, 1) := by decide +kernel
theorem d_Mo_note_7 : decode b_Mo_note 7 = .ok (.putfield 41, 3) := by decide +kernel
theorem d_Mo_note_10 : decode b_Mo_note 10 = .ok (.aload_n 0, 1) := by decide +kernel
theorem d_Mo_note_11 : decode b_Mo_note 11 = .ok (.getfield 41, 3) := by decide +kernel
theorem d_Mo_note_14 : decode b_Mo_note 14 = .ok (.bipush 16, 2) := by decide +kernel
theorem d_Mo_note_16 : decode b_Mo_note 16 = .ok (.if_icmp .ne 8, 3) := by decide +kernel
theorem d_Mo_note_19 : decode b_Mo_note 19 = .ok (.aload_n 0, 1) := by decide +kernel
theorem d_Mo_note_20 : decode b_Mo_note 20 = .ok (.iconst 0, 1) := by decide +kernel
theorem d_Mo_note_21 : decode b_Mo_note 21 = .ok (.putfield 41, 3) := by decide +kernel
theorem d_Mo_note_24 : decode b_Mo_note 24 = .ok (.aload_n 0, 1) := by decide +kernel
theorem d_Mo_note_25 : decode b_Mo_note 25 = .ok (.aload_n 0, 1) := by decide +kernel
theorem d_Mo_note_26 : decode b_Mo_note 26 = .ok (.getfield 41, 3) := by decide +kernel
theorem d_Mo_note_29 : decode b_Mo_note 29 = .ok (.invokevirtual 61, 3) := by decide +kernel
theorem d_Mo_note_32 : decode b_Mo_note 32 = .ok (.return_, 1) := by decide +kernel
theorem d_Mo_flush_0 : decode b_Mo_flush 0 = .ok (.aload_n 0, 1) := by decide +kernel
theorem d_Mo_flush_1 : decode b_Mo_flush 1 = .ok (.getfield 41, 3) := by decide +kernel
theorem d_Mo_flush_4 : decode b_Mo_flush 4 = .ok (.istore_n 1, 1) := by decide +kernel
theorem d_Mo_flush_5 : decode b_Mo_flush 5 = .ok (.aload_n 0, 1) := by decide +kernel
theorem d_Mo_flush_6 : decode b_Mo_flush 6 = .ok (.iconst 0, 1) := by decide +kernel
theorem d_Mo_flush_7 : decode b_Mo_flush 7 = .ok (.putfield 41, 3) := by decide +kernel
theorem d_Mo_flush_10 : decode b_Mo_flush 10 = .ok (.aload_n 0, 1) := by decide +kernel
theorem d_Mo_flush_11 : decode b_Mo_flush 11 = .ok (.iconst 0, 1) := by decide +kernel
theorem d_Mo_flush_12 : decode b_Mo_flush 12 = .ok (.invokevirtual 61, 3) := by decide +kernel
theorem d_Mo_flush_15 : decode b_Mo_flush 15 = .ok (.iload_n 1, 1) := by decide +kernel
theorem d_Mo_flush_16 : decode b_Mo_flush 16 = .ok (.ireturn, 1) := by decide +kernel
theorem d_Mo_isLive_0 : decode b_Mo_isLive 0 = .ok (.aload_n 0, 1) := by decide +kernel
theorem d_Mo_isLive_1 : decode b_Mo_isLive 1 = .ok (.iload_n 1, 1) := by decide +kernel
theorem d_Mo_isLive_2 : decode b_Mo_isLive 2 = .ok (.bipush 9, 2) := by decide +kernel
theorem d_Mo_isLive_4 : decode b_Mo_isLive 4 = .ok (.invokevirtual 65, 3) := by decide +kernel
theorem d_Mo_isLive_7 : decode b_Mo_isLive 7 = .ok (.istore_n 2, 1) := by decide +kernel
theorem d_Mo_isLive_8 : decode b_Mo_isLive 8 = .ok (.iload_n 2, 1) := by decide +kernel
theorem d_Mo_isLive_9 : decode b_Mo_isLive 9 = .ok (.iconst 4, 1) := by decide +kernel
theorem d_Mo_isLive_10 : decode b_Mo_isLive 10 = .ok (.if_icmp .lt 9, 3) := by decide +kernel
theorem d_Mo_isLive_13 : decode b_Mo_isLive 13 = .ok (.iload_n 2, 1) := by decide +kernel
theorem d_Mo_isLive_14 : decode b_Mo_isLive 14 = .ok (.bipush 6, 2) := by decide +kernel
theorem d_Mo_isLive_16 : decode b_Mo_isLive 16 = .ok (.if_icmp .ne 7, 3) := by decide +kernel
theorem d_Mo_isLive_19 : decode b_Mo_isLive 19 = .ok (.iconst 1, 1) := by decide +kernel
theorem d_Mo_isLive_20 : decode b_Mo_isLive 20 = .ok (.goto 4, 3) := by decide +kernel
theorem d_Mo_isLive_23 : decode b_Mo_isLive 23 = .ok (.iconst 0, 1) := by decide +kernel
theorem d_Mo_isLive_24 : decode b_Mo_isLive 24 = .ok (.ireturn, 1) := by decide +kernel
theorem d_Mo_ready_0 : decode b_Mo_ready 0 = .ok (.aload_n 0, 1) := by decide +kernel
theorem d_Mo_ready_1 : decode b_Mo_ready 1 = .ok (.iload_n 1, 1) := by decide +kernel
theorem d_Mo_ready_2 : decode b_Mo_ready 2 = .ok (.bipush 9, 2) := by decide +kernel
theorem d_Mo_ready_4 : decode b_Mo_ready 4 = .ok (.iconst 1, 1) := by decide +kernel
theorem d_Mo_ready_5 : decode b_Mo_ready 5 = .ok (.invokevirtual 69, 3) := by decide +kernel
theorem d_Mo_ready_8 : decode b_Mo_ready 8 = .ok (.aload_n 0, 1) := by decide +kernel
theorem d_Mo_ready_9 : decode b_Mo_ready 9 = .ok (.iload_n 1, 1) := by decide +kernel
theorem d_Mo_ready_10 : decode b_Mo_ready 10 = .ok (.bipush 12, 2) := by decide +kernel
theorem d_Mo_ready_12 : decode b_Mo_ready 12 = .ok (.aload_n 0, 1) := by decide +kernel
theorem d_Mo_ready_13 : decode b_Mo_ready 13 = .ok (.getfield 38, 3) := by decide +kernel
theorem d_Mo_ready_16 : decode b_Mo_ready 16 = .ok (.invokevirtual 69, 3) := by decide +kernel
theorem d_Mo_ready_19 : decode b_Mo_ready 19 = .ok (.aload_n 0, 1) := by decide +kernel
theorem d_Mo_ready_20 : decode b_Mo_ready 20 = .ok (.dup, 1) := by decide +kernel
theorem d_Mo_ready_21 : decode b_Mo_ready 21 = .ok (.getfield 38, 3) := by decide +kernel
theorem d_Mo_ready_24 : decode b_Mo_ready 24 = .ok (.iconst 1, 1) := by decide +kernel
theorem d_Mo_ready_25 : decode b_Mo_ready 25 = .ok (.iadd, 1) := by decide +kernel
theorem d_Mo_ready_26 : decode b_Mo_ready 26 = .ok (.putfield 38, 3) := by decide +kernel
theorem d_Mo_ready_29 : decode b_Mo_ready 29 = .ok (.return_, 1) := by decide +kernel
theorem d_Mo_die_0 : decode b_Mo_die 0 = .ok (.iconst 0, 1) := by decide +kernel
theorem d_Mo_die_1 : decode b_Mo_die 1 = .ok (.istore_n 2, 1) := by decide +kernel
theorem d_Mo_die_2 : decode b_Mo_die 2 = .ok (.iconst (-1), 1) := by decide +kernel
theorem d_Mo_die_3 : decode b_Mo_die 3 = .ok (.istore_n 3, 1) := by decide +kernel
theorem d_Mo_die_4 : decode b_Mo_die 4 = .ok (.iconst 0, 1) := by decide +kernel
theorem d_Mo_die_5 : decode b_Mo_die 5 = .ok (.istore 4, 2) := by decide +kernel
theorem d_Mo_die_7 : decode b_Mo_die 7 = .ok (.iload 4, 2) := by decide +kernel
theorem d_Mo_die_9 : decode b_Mo_die 9 = .ok (.aload_n 0, 1) := by decide +kernel
theorem d_Mo_die_10 : decode b_Mo_die 10 = .ok (.getfield 35, 3) := by decide +kernel
theorem d_Mo_die_13 : decode b_Mo_die 13 = .ok (.if_icmp .ge 58, 3) := by decide +kernel
theorem d_Mo_die_16 : decode b_Mo_die 16 = .ok (.aload_n 0, 1) := by decide +kernel
theorem d_Mo_die_17 : decode b_Mo_die 17 = .ok (.iload 4, 2) := by decide +kernel
theorem d_Mo_die_19 : decode b_Mo_die 19 = .ok (.bipush 9, 2) := by decide +kernel
theorem d_Mo_die_21 : decode b_Mo_die 21 = .ok (.invokevirtual 65, 3) := by decide +kernel
theorem d_Mo_die_24 : decode b_Mo_die 24 = .ok (.iconst 5, 1) := by decide +kernel
theorem d_Mo_die_25 : decode b_Mo_die 25 = .ok (.if_icmp .ne 40, 3) := by decide +kernel
theorem d_Mo_die_28 : decode b_Mo_die 28 = .ok (.iload 4, 2) := by decide +kernel
theorem d_Mo_die_30 : decode b_Mo_die 30 = .ok (.iload_n 1, 1) := by decide +kernel
theorem d_Mo_die_31 : decode b_Mo_die 31 = .ok (.if_icmp .ne 6, 3) := by decide +kernel
theorem d_Mo_die_34 : decode b_Mo_die 34 = .ok (.goto 31, 3) := by decide +kernel
theorem d_Mo_die_37 : decode b_Mo_die 37 = .ok (.iinc 2 1, 3) := by decide +kernel
theorem d_Mo_die_40 : decode b_Mo_die 40 = .ok (.iload_n 3, 1) := by decide +kernel
theorem d_Mo_die_41 : decode b_Mo_die 41 = .ok (.ifCond .lt 21, 3) := by decide +kernel
theorem d_Mo_die_44 : decode b_Mo_die 44 = .ok (.aload_n 0, 1) := by decide +kernel
theorem d_Mo_die_45 : decode b_Mo_die 45 = .ok (.iload 4, 2) := by decide +kernel
theorem d_Mo_die_47 : decode b_Mo_die 47 = .ok (.bipush 12, 2) := by decide +kernel
theorem d_Mo_die_49 : decode b_Mo_die 49 = .ok (.invokevirtual 65, 3) := by decide +kernel
theorem d_Mo_die_52 : decode b_Mo_die 52 = .ok (.aload_n 0, 1) := by decide +kernel
theorem d_Mo_die_53 : decode b_Mo_die 53 = .ok (.iload_n 3, 1) := by decide +kernel
theorem d_Mo_die_54 : decode b_Mo_die 54 = .ok (.bipush 12, 2) := by decide +kernel
theorem d_Mo_die_56 : decode b_Mo_die 56 = .ok (.invokevirtual 65, 3) := by decide +kernel
theorem d_Mo_die_59 : decode b_Mo_die 59 = .ok (.if_icmp .ge 6, 3) := by decide +kernel
theorem d_Mo_die_62 : decode b_Mo_die 62 = .ok (.iload 4, 2) := by decide +kernel
theorem d_Mo_die_64 : decode b_Mo_die 64 = .ok (.istore_n 3, 1) := by decide +kernel
theorem d_Mo_die_65 : decode b_Mo_die 65 = .ok (.iinc 4 1, 3) := by decide +kernel
theorem d_Mo_die_68 : decode b_Mo_die 68 = .ok (.goto (-61), 3) := by decide +kernel
theorem d_Mo_die_71 : decode b_Mo_die 71 = .ok (.iload_n 2, 1) := by decide +kernel
theorem d_Mo_die_72 : decode b_Mo_die 72 = .ok (.bipush 8, 2) := by decide +kernel
theorem d_Mo_die_74 : decode b_Mo_die 74 = .ok (.if_icmp .lt 12, 3) := by decide +kernel
theorem d_Mo_die_77 : decode b_Mo_die 77 = .ok (.aload_n 0, 1) := by decide +kernel
theorem d_Mo_die_78 : decode b_Mo_die 78 = .ok (.iload_n 3, 1) := by decide +kernel
theorem d_Mo_die_79 : decode b_Mo_die 79 = .ok (.bipush 9, 2) := by decide +kernel
theorem d_Mo_die_81 : decode b_Mo_die 81 = .ok (.bipush 7, 2) := by decide +kernel
theorem d_Mo_die_83 : decode b_Mo_die 83 = .ok (.invokevirtual 69, 3) := by decide +kernel
theorem d_Mo_die_86 : decode b_Mo_die 86 = .ok (.aload_n 0, 1) := by decide +kernel
theorem d_Mo_die_87 : decode b_Mo_die 87 = .ok (.iload_n 1, 1) := by decide +kernel
theorem d_Mo_die_88 : decode b_Mo_die 88 = .ok (.bipush 9, 2) := by decide +kernel
theorem d_Mo_die_90 : decode b_Mo_die 90 = .ok (.iconst 5, 1) := by decide +kernel
theorem d_Mo_die_91 : decode b_Mo_die 91 = .ok (.invokevirtual 69, 3) := by decide +kernel
theorem d_Mo_die_94 : decode b_Mo_die 94 = .ok (.aload_n 0, 1) := by decide +kernel
theorem d_Mo_die_95 : decode b_Mo_die 95 = .ok (.iload_n 1, 1) := by decide +kernel
theorem d_Mo_die_96 : decode b_Mo_die 96 = .ok (.bipush 12, 2) := by decide +kernel
theorem d_Mo_die_98 : decode b_Mo_die 98 = .ok (.aload_n 0, 1) := by decide +kernel
theorem d_Mo_die_99 : decode b_Mo_die 99 = .ok (.getfield 38, 3) := by decide +kernel
theorem d_Mo_die_102 : decode b_Mo_die 102 = .ok (.invokevirtual 69, 3) := by decide +kernel
theorem d_Mo_die_105 : decode b_Mo_die 105 = .ok (.aload_n 0, 1) := by decide +kernel
theorem d_Mo_die_106 : decode b_Mo_die 106 = .ok (.dup, 1) := by decide +kernel
theorem d_Mo_die_107 : decode b_Mo_die 107 = .ok (.getfield 38, 3) := by decide +kernel
theorem d_Mo_die_110 : decode b_Mo_die 110 = .ok (.iconst 1, 1) := by decide +kernel
theorem d_Mo_die_111 : decode b_Mo_die 111 = .ok (.iadd, 1) := by decide +kernel
theorem d_Mo_die_112 : decode b_Mo_die 112 = .ok (.putfield 38, 3) := by decide +kernel
theorem d_Mo_die_115 : decode b_Mo_die 115 = .ok (.return_, 1) := by decide +kernel
theorem d_Mo_failing_0 : decode b_Mo_failing 0 = .ok (.aload_n 0, 1) := by decide +kernel
theorem d_Mo_failing_1 : decode b_Mo_failing 1 = .ok (.iload_n 1, 1) := by decide +kernel
theorem d_Mo_failing_2 : decode b_Mo_failing 2 = .ok (.bipush 11, 2) := by decide +kernel
theorem d_Mo_failing_4 : decode b_Mo_failing 4 = .ok (.iconst (-1), 1) := by decide +kernel
theorem d_Mo_failing_5 : decode b_Mo_failing 5 = .ok (.invokevirtual 69, 3) := by decide +kernel
theorem d_Mo_failing_8 : decode b_Mo_failing 8 = .ok (.aload_n 0, 1) := by decide +kernel
theorem d_Mo_failing_9 : decode b_Mo_failing 9 = .ok (.iload_n 1, 1) := by decide +kernel
theorem d_Mo_failing_10 : decode b_Mo_failing 10 = .ok (.iconst 4, 1) := by decide +kernel
theorem d_Mo_failing_11 : decode b_Mo_failing 11 = .ok (.aload_n 0, 1) := by decide +kernel
theorem d_Mo_failing_12 : decode b_Mo_failing 12 = .ok (.iload_n 1, 1) := by decide +kernel
theorem d_Mo_failing_13 : decode b_Mo_failing 13 = .ok (.iconst 4, 1) := by decide +kernel
theorem d_Mo_failing_14 : decode b_Mo_failing 14 = .ok (.invokevirtual 65, 3) := by decide +kernel
theorem d_Mo_failing_17 : decode b_Mo_failing 17 = .ok (.iconst 1, 1) := by decide +kernel
theorem d_Mo_failing_18 : decode b_Mo_failing 18 = .ok (.iadd, 1) := by decide +kernel
theorem d_Mo_failing_19 : decode b_Mo_failing 19 = .ok (.invokevirtual 69, 3) := by decide +kernel
theorem d_Mo_failing_22 : decode b_Mo_failing 22 = .ok (.aload_n 0, 1) := by decide +kernel
theorem d_Mo_failing_23 : decode b_Mo_failing 23 = .ok (.iload_n 1, 1) := by decide +kernel
theorem d_Mo_failing_24 : decode b_Mo_failing 24 = .ok (.iconst 4, 1) := by decide +kernel
theorem d_Mo_failing_25 : decode b_Mo_failing 25 = .ok (.invokevirtual 65, 3) := by decide +kernel
theorem d_Mo_failing_28 : decode b_Mo_failing 28 = .ok (.aload_n 0, 1) := by decide +kernel
theorem d_Mo_failing_29 : decode b_Mo_failing 29 = .ok (.iload_n 1, 1) := by decide +kernel
theorem d_Mo_failing_30 : decode b_Mo_failing 30 = .ok (.iconst 2, 1) := by decide +kernel
theorem d_Mo_failing_31 : decode b_Mo_failing 31 = .ok (.invokevirtual 65, 3) := by decide +kernel
theorem d_Mo_failing_34 : decode b_Mo_failing 34 = .ok (.if_icmp .le 9, 3) := by decide +kernel
theorem d_Mo_failing_37 : decode b_Mo_failing 37 = .ok (.aload_n 0, 1) := by decide +kernel
theorem d_Mo_failing_38 : decode b_Mo_failing 38 = .ok (.iload_n 1, 1) := by decide +kernel
theorem d_Mo_failing_39 : decode b_Mo_failing 39 = .ok (.invokevirtual 73, 3) := by decide +kernel
theorem d_Mo_failing_42 : decode b_Mo_failing 42 = .ok (.return_, 1) := by decide +kernel
theorem d_Mo_failing_43 : decode b_Mo_failing 43 = .ok (.aload_n 0, 1) := by decide +kernel
theorem d_Mo_failing_44 : decode b_Mo_failing 44 = .ok (.iload_n 1, 1) := by decide +kernel
theorem d_Mo_failing_45 : decode b_Mo_failing 45 = .ok (.iconst 3, 1) := by decide +kernel
theorem d_Mo_failing_46 : decode b_Mo_failing 46 = .ok (.invokevirtual 65, 3) := by decide +kernel
theorem d_Mo_failing_49 : decode b_Mo_failing 49 = .ok (.istore_n 2, 1) := by decide +kernel
theorem d_Mo_failing_50 : decode b_Mo_failing 50 = .ok (.iconst 1, 1) := by decide +kernel
theorem d_Mo_failing_51 : decode b_Mo_failing 51 = .ok (.istore_n 3, 1) := by decide +kernel
theorem d_Mo_failing_52 : decode b_Mo_failing 52 = .ok (.iload_n 3, 1) := by decide +kernel
theorem d_Mo_failing_53 : decode b_Mo_failing 53 = .ok (.aload_n 0, 1) := by decide +kernel
theorem d_Mo_failing_54 : decode b_Mo_failing 54 = .ok (.iload_n 1, 1) := by decide +kernel
theorem d_Mo_failing_55 : decode b_Mo_failing 55 = .ok (.iconst 4, 1) := by decide +kernel
theorem d_Mo_failing_56 : decode b_Mo_failing 56 = .ok (.invokevirtual 65, 3) := by decide +kernel
theorem d_Mo_failing_59 : decode b_Mo_failing 59 = .ok (.if_icmp .ge 13, 3) := by decide +kernel
theorem d_Mo_failing_62 : decode b_Mo_failing 62 = .ok (.iload_n 2, 1) := by decide +kernel
theorem d_Mo_failing_63 : decode b_Mo_failing 63 = .ok (.iconst 2, 1) := by decide +kernel
theorem d_Mo_failing_64 : decode b_Mo_failing 64 = .ok (.imul, 1) := by decide +kernel
theorem d_Mo_failing_65 : decode b_Mo_failing 65 = .ok (.istore_n 2, 1) := by decide +kernel
theorem d_Mo_failing_66 : decode b_Mo_failing 66 = .ok (.iinc 3 1, 3) := by decide +kernel
theorem d_Mo_failing_69 : decode b_Mo_failing 69 = .ok (.goto (-17), 3) := by decide +kernel
theorem d_Mo_failing_72 : decode b_Mo_failing 72 = .ok (.aload_n 0, 1) := by decide +kernel
theorem d_Mo_failing_73 : decode b_Mo_failing 73 = .ok (.iload_n 1, 1) := by decide +kernel
theorem d_Mo_failing_74 : decode b_Mo_failing 74 = .ok (.bipush 9, 2) := by decide +kernel
theorem d_Mo_failing_76 : decode b_Mo_failing 76 = .ok (.iconst 3, 1) := by decide +kernel
theorem d_Mo_failing_77 : decode b_Mo_failing 77 = .ok (.invokevirtual 69, 3) := by decide +kernel
theorem d_Mo_failing_80 : decode b_Mo_failing 80 = .ok (.aload_n 0, 1) := by decide +kernel
theorem d_Mo_failing_81 : decode b_Mo_failing 81 = .ok (.iload_n 1, 1) := by decide +kernel
theorem d_Mo_failing_82 : decode b_Mo_failing 82 = .ok (.bipush 10, 2) := by decide +kernel
theorem d_Mo_failing_84 : decode b_Mo_failing 84 = .ok (.aload_n 0, 1) := by decide +kernel
theorem d_Mo_failing_85 : decode b_Mo_failing 85 = .ok (.getfield 7, 3) := by decide +kernel
theorem d_Mo_failing_88 : decode b_Mo_failing 88 = .ok (.iload_n 2, 1) := by decide +kernel
theorem d_Mo_failing_89 : decode b_Mo_failing 89 = .ok (.sipush 500, 3) := by decide +kernel
theorem d_Mo_failing_92 : decode b_Mo_failing 92 = .ok (.if_icmp .le 9, 3) := by decide +kernel
theorem d_Mo_failing_95 : decode b_Mo_failing 95 = .ok (.sipush 500, 3) := by decide +kernel
theorem d_Mo_failing_98 : decode b_Mo_failing 98 = .ok (.goto 4, 3) := by decide +kernel
theorem d_Mo_failing_101 : decode b_Mo_failing 101 = .ok (.iload_n 2, 1) := by decide +kernel
theorem d_Mo_failing_102 : decode b_Mo_failing 102 = .ok (.iadd, 1) := by decide +kernel
theorem d_Mo_failing_103 : decode b_Mo_failing 103 = .ok (.invokevirtual 69, 3) := by decide +kernel
theorem d_Mo_failing_106 : decode b_Mo_failing 106 = .ok (.return_, 1) := by decide +kernel
theorem d_Mo_keyTaken_0 : decode b_Mo_keyTaken 0 = .ok (.iconst 0, 1) := by decide +kernel
theorem d_Mo_keyTaken_1 : decode b_Mo_keyTaken 1 = .ok (.istore_n 2, 1) := by decide +kernel
theorem d_Mo_keyTaken_2 : decode b_Mo_keyTaken 2 = .ok (.iload_n 2, 1) := by decide +kernel
theorem d_Mo_keyTaken_3 : decode b_Mo_keyTaken 3 = .ok (.aload_n 0, 1) := by decide +kernel
theorem d_Mo_keyTaken_4 : decode b_Mo_keyTaken 4 = .ok (.getfield 35, 3) := by decide +kernel
theorem d_Mo_keyTaken_7 : decode b_Mo_keyTaken 7 = .ok (.if_icmp .ge 33, 3) := by decide +kernel
theorem d_Mo_keyTaken_10 : decode b_Mo_keyTaken 10 = .ok (.iload_n 1, 1) := by decide +kernel
theorem d_Mo_keyTaken_11 : decode b_Mo_keyTaken 11 = .ok (.ifCond .lt 29, 3) := by decide +kernel
theorem d_Mo_keyTaken_14 : decode b_Mo_keyTaken 14 = .ok (.aload_n 0, 1) := by decide +kernel
theorem d_Mo_keyTaken_15 : decode b_Mo_keyTaken 15 = .ok (.iload_n 2, 1) := by decide +kernel
theorem d_Mo_keyTaken_16 : decode b_Mo_keyTaken 16 = .ok (.invokevirtual 76, 3) := by decide +kernel
theorem d_Mo_keyTaken_19 : decode b_Mo_keyTaken 19 = .ok (.ifCond .eq 15, 3) := by decide +kernel
theorem d_Mo_keyTaken_22 : decode b_Mo_keyTaken 22 = .ok (.aload_n 0, 1) := by decide +kernel
theorem d_Mo_keyTaken_23 : decode b_Mo_keyTaken 23 = .ok (.iload_n 2, 1) := by decide +kernel
theorem d_Mo_keyTaken_24 : decode b_Mo_keyTaken 24 = .ok (.iconst 5, 1) := by decide +kernel
theorem d_Mo_keyTaken_25 : decode b_Mo_keyTaken 25 = .ok (.invokevirtual 65, 3) := by decide +kernel
theorem d_Mo_keyTaken_28 : decode b_Mo_keyTaken 28 = .ok (.iload_n 1, 1) := by decide +kernel
theorem d_Mo_keyTaken_29 : decode b_Mo_keyTaken 29 = .ok (.if_icmp .ne 5, 3) := by decide +kernel
theorem d_Mo_keyTaken_32 : decode b_Mo_keyTaken 32 = .ok (.iconst 1, 1) := by decide +kernel
theorem d_Mo_keyTaken_33 : decode b_Mo_keyTaken 33 = .ok (.ireturn, 1) := by decide +kernel
theorem d_Mo_keyTaken_34 : decode b_Mo_keyTaken 34 = .ok (.iinc 2 1, 3) := by decide +kernel
theorem d_Mo_keyTaken_37 : decode b_Mo_keyTaken 37 = .ok (.goto (-35), 3) := by decide +kernel
theorem d_Mo_keyTaken_40 : decode b_Mo_keyTaken 40 = .ok (.iconst 0, 1) := by decide +kernel
theorem d_Mo_keyTaken_41 : decode b_Mo_keyTaken 41 = .ok (.ireturn, 1) := by decide +kernel
theorem d_Mo_make_0 : decode b_Mo_make 0 = .ok (.aload_n 0, 1) := by decide +kernel
theorem d_Mo_make_1 : decode b_Mo_make 1 = .ok (.getfield 35, 3) := by decide +kernel
theorem d_Mo_make_4 : decode b_Mo_make 4 = .ok (.istore 6, 2) := by decide +kernel
theorem d_Mo_make_6 : decode b_Mo_make 6 = .ok (.aload_n 0, 1) := by decide +kernel
theorem d_Mo_make_7 : decode b_Mo_make 7 = .ok (.dup, 1) := by decide +kernel
theorem d_Mo_make_8 : decode b_Mo_make 8 = .ok (.getfield 35, 3) := by decide +kernel
theorem d_Mo_make_11 : decode b_Mo_make 11 = .ok (.iconst 1, 1) := by decide +kernel
theorem d_Mo_make_12 : decode b_Mo_make 12 = .ok (.iadd, 1) := by decide +kernel
theorem d_Mo_make_13 : decode b_Mo_make 13 = .ok (.putfield 35, 3) := by decide +kernel
theorem d_Mo_make_16 : decode b_Mo_make 16 = .ok (.iconst 0, 1) := by decide +kernel
theorem d_Mo_make_17 : decode b_Mo_make 17 = .ok (.istore 7, 2) := by decide +kernel
theorem d_Mo_make_19 : decode b_Mo_make 19 = .ok (.iload 7, 2) := by decide +kernel
theorem d_Mo_make_21 : decode b_Mo_make 21 = .ok (.bipush 13, 2) := by decide +kernel
theorem d_Mo_make_23 : decode b_Mo_make 23 = .ok (.if_icmp .ge 18, 3) := by decide +kernel
theorem d_Mo_make_26 : decode b_Mo_make 26 = .ok (.aload_n 0, 1) := by decide +kernel
theorem d_Mo_make_27 : decode b_Mo_make 27 = .ok (.iload 6, 2) := by decide +kernel
theorem d_Mo_make_29 : decode b_Mo_make 29 = .ok (.iload 7, 2) := by decide +kernel
theorem d_Mo_make_31 : decode b_Mo_make 31 = .ok (.iconst 0, 1) := by decide +kernel
theorem d_Mo_make_32 : decode b_Mo_make 32 = .ok (.invokevirtual 69, 3) := by decide +kernel
theorem d_Mo_make_35 : decode b_Mo_make 35 = .ok (.iinc 7 1, 3) := by decide +kernel
theorem d_Mo_make_38 : decode b_Mo_make 38 = .ok (.goto (-19), 3) := by decide +kernel
theorem d_Mo_make_41 : decode b_Mo_make 41 = .ok (.aload_n 0, 1) := by decide +kernel
theorem d_Mo_make_42 : decode b_Mo_make 42 = .ok (.iload 6, 2) := by decide +kernel
theorem d_Mo_make_44 : decode b_Mo_make 44 = .ok (.iconst 0, 1) := by decide +kernel
theorem d_Mo_make_45 : decode b_Mo_make 45 = .ok (.iload_n 1, 1) := by decide +kernel
theorem d_Mo_make_46 : decode b_Mo_make 46 = .ok (.invokevirtual 69, 3) := by decide +kernel
theorem d_Mo_make_49 : decode b_Mo_make 49 = .ok (.aload_n 0, 1) := by decide +kernel
theorem d_Mo_make_50 : decode b_Mo_make 50 = .ok (.iload 6, 2) := by decide +kernel
theorem d_Mo_make_52 : decode b_Mo_make 52 = .ok (.iconst 1, 1) := by decide +kernel
theorem d_Mo_make_53 : decode b_Mo_make 53 = .ok (.iload_n 2, 1) := by decide +kernel
theorem d_Mo_make_54 : decode b_Mo_make 54 = .ok (.invokevirtual 69, 3) := by decide +kernel
theorem d_Mo_make_57 : decode b_Mo_make 57 = .ok (.aload_n 0, 1) := by decide +kernel
theorem d_Mo_make_58 : decode b_Mo_make 58 = .ok (.iload 6, 2) := by decide +kernel
theorem d_Mo_make_60 : decode b_Mo_make 60 = .ok (.iconst 2, 1) := by decide +kernel
theorem d_Mo_make_61 : decode b_Mo_make 61 = .ok (.iload_n 3, 1) := by decide +kernel
theorem d_Mo_make_62 : decode b_Mo_make 62 = .ok (.invokevirtual 69, 3) := by decide +kernel
theorem d_Mo_make_65 : decode b_Mo_make 65 = .ok (.aload_n 0, 1) := by decide +kernel
theorem d_Mo_make_66 : decode b_Mo_make 66 = .ok (.iload 6, 2) := by decide +kernel
theorem d_Mo_make_68 : decode b_Mo_make 68 = .ok (.iconst 3, 1) := by decide +kernel
theorem d_Mo_make_69 : decode b_Mo_make 69 = .ok (.iload 4, 2) := by decide +kernel
theorem d_Mo_make_71 : decode b_Mo_make 71 = .ok (.invokevirtual 69, 3) := by decide +kernel
theorem d_Mo_make_74 : decode b_Mo_make 74 = .ok (.aload_n 0, 1) := by decide +kernel
theorem d_Mo_make_75 : decode b_Mo_make 75 = .ok (.iload 6, 2) := by decide +kernel
theorem d_Mo_make_77 : decode b_Mo_make 77 = .ok (.iconst 5, 1) := by decide +kernel
theorem d_Mo_make_78 : decode b_Mo_make 78 = .ok (.iload 5, 2) := by decide +kernel
theorem d_Mo_make_80 : decode b_Mo_make 80 = .ok (.invokevirtual 69, 3) := by decide +kernel
theorem d_Mo_make_83 : decode b_Mo_make 83 = .ok (.aload_n 0, 1) := by decide +kernel
theorem d_Mo_make_84 : decode b_Mo_make 84 = .ok (.iload 6, 2) := by decide +kernel
theorem d_Mo_make_86 : decode b_Mo_make 86 = .ok (.bipush 6, 2) := by decide +kernel
theorem d_Mo_make_88 : decode b_Mo_make 88 = .ok (.iconst (-1), 1) := by decide +kernel
theorem d_Mo_make_89 : decode b_Mo_make 89 = .ok (.invokevirtual 69, 3) := by decide +kernel
theorem d_Mo_make_92 : decode b_Mo_make 92 = .ok (.aload_n 0, 1) := by decide +kernel
theorem d_Mo_make_93 : decode b_Mo_make 93 = .ok (.iload 6, 2) := by decide +kernel
theorem d_Mo_make_95 : decode b_Mo_make 95 = .ok (.bipush 11, 2) := by decide +kernel
theorem d_Mo_make_97 : decode b_Mo_make 97 = .ok (.iconst (-1), 1) := by decide +kernel
theorem d_Mo_make_98 : decode b_Mo_make 98 = .ok (.invokevirtual 69, 3) := by decide +kernel
theorem d_Mo_make_101 : decode b_Mo_make 101 = .ok (.iload 6, 2) := by decide +kernel
theorem d_Mo_make_103 : decode b_Mo_make 103 = .ok (.ireturn, 1) := by decide +kernel
def fn_Mo_out (N : Nat) (p0 : Int32) (p1 : Int32) (p2 : Int32) (σ : gx_M) : Option (Int32 × gx_M) := if p0 < p1 then (some ((1 : Int32), σ)) else (if p0 ≤ p2 then (some ((0 : Int32), σ)) else (some ((1 : Int32), σ)))
set_option maxHeartbeats 4000000 in
set_option maxRecDepth 100000 in
theorem ct_Mo_out (l : Launch) (D : va_G) (dA : Nat → ClassId) (adr : Nat → Nat) (A : Nat → Prop) (hA : gx_A A adr) (N : Nat) (p0 : Int32) (p1 : Int32) (p2 : Int32) (σ : gx_M) (r : Int32) (σ' : gx_M) (hf : fn_Mo_out N p0 p1 p2 σ = some (r, σ')) : Met l y_Mo_out w_Mo_out rm_Mo_out (gx_Pc D dA adr σ [.ref (adr 722), .int p0, .int p1, .int p2]) (gx_Q D dA adr A (some (.int r)) σ') 0 0 A := by
  refine Met.ofW (cc := b_Mo_out) (maxL := 4) (ret := some .boolean) (by decide) rfl ?_
  intro p e s m args below meth c s₁ B hml hv
  obtain ⟨rfl, hP, hK⟩ := hv
  have hx := B.exec
  have hb := B.bytes
  have hr := B.returns
  have hlocks := B.notSynchronized
  have ht : ∀ w ∈ gx_tb, w.before _ s = true := fun w h => atoms_spec (ws := w_Mo_out) B.pre w (List.mem_cons_of_mem _ h)
  have hown : s.vm.findClass R_Mo = some m.cls := findClass_of_methodNamed B.named
  have G : gx_G p m c b_Mo_out 4 s _ gx_tb R_Mo D dA := ⟨⟨hx, hb, hml, hown, ht⟩, hK⟩
  have hI : gx_I D dA adr A s.heap σ s.heap [] := ⟨hP, va_S.rf⟩
  have hl := lv_entry ([.ref (adr 722), .int p0, .int p1, .int p2]) (n := 4) (Nat.le_of_ble_eq_true rfl)
  rw [lg_entry_eq]
  generalize (lg_sl ([.ref (adr 722), .int p0, .int p1, .int p2]) ++ List.replicate (4 - (lg_sl ([.ref (adr 722), .int p0, .int p1, .int p2])).length) Slot.unset).toArray = ls at hl ⊢
  have hl : lv_has ls 4 [(0, .ref (adr 722)), (1, .int p0), (2, .int p1), (3, .int p2)] := hl
  rw [fn_Mo_out] at hf
  refine lv_iload_n hx hb d_Mo_out_0 rfl (lv_at hl 1 rfl) ?_
  refine lv_iload_n hx hb d_Mo_out_1 rfl (lv_at hl 2 rfl) ?_
  refine lv_icmp_lt (tgt := 10) hx hb d_Mo_out_2 (by decide) (fun c_1 => ?_) (fun c_1 => ?_)
  · replace hf := (if_pos c_1).symm.trans hf
    refine lv_iconst (v := 1) hx hb d_Mo_out_10 (by decide) ?_
    refine lv_goto (tgt := 15) hx hb d_Mo_out_11 (by decide) ?_
    cases hf
    exact W.zret (v := (1 : Int32)) hx hb hr (by decide) (gx_F hI) hI.2.2.2 d_Mo_out_15
  · replace hf := (if_neg c_1).symm.trans hf
    refine lv_iload_n hx hb d_Mo_out_5 rfl (lv_at hl 1 rfl) ?_
    refine lv_iload_n hx hb d_Mo_out_6 rfl (lv_at hl 3 rfl) ?_
    refine lv_icmp_le (tgt := 14) hx hb d_Mo_out_7 (by decide) (fun c_2 => ?_) (fun c_2 => ?_)
    · replace hf := (if_pos c_2).symm.trans hf
      refine lv_iconst (v := 0) hx hb d_Mo_out_14 (by decide) ?_
      cases hf
      exact W.zret (v := (0 : Int32)) hx hb hr (by decide) (gx_F hI) hI.2.2.2 d_Mo_out_15
    · replace hf := (if_neg c_2).symm.trans hf
      refine lv_iconst (v := 1) hx hb d_Mo_out_10 (by decide) ?_
      refine lv_goto (tgt := 15) hx hb d_Mo_out_11 (by decide) ?_
      cases hf
      exact W.zret (v := (1 : Int32)) hx hb hr (by decide) (gx_F hI) hI.2.2.2 d_Mo_out_15
def fn_Mo_no (N : Nat) (p0 : Int32) (σ : gx_M) : Option (Int32 × gx_M) := if p0 < 0 then (some ((1 : Int32), σ)) else (if p0 < (σ 722 9) then (some ((0 : Int32), σ)) else (some ((1 : Int32), σ)))
set_option maxHeartbeats 4000000 in
set_option maxRecDepth 100000 in
theorem ct_Mo_no (l : Launch) (D : va_G) (dA : Nat → ClassId) (adr : Nat → Nat) (A : Nat → Prop) (hA : gx_A A adr) (N : Nat) (p0 : Int32) (σ : gx_M) (r : Int32) (σ' : gx_M) (hf : fn_Mo_no N p0 σ = some (r, σ')) : Met l y_Mo_no w_Mo_no rm_Mo_no (gx_Pc D dA adr σ [.ref (adr 722), .int p0]) (gx_Q D dA adr A (some (.int r)) σ') 0 0 A := by
  refine Met.ofW (cc := b_Mo_no) (maxL := 2) (ret := some .boolean) (by decide) rfl ?_
  intro p e s m args below meth c s₁ B hml hv
  obtain ⟨rfl, hP, hK⟩ := hv
  have hx := B.exec
  have hb := B.bytes
  have hr := B.returns
  have hlocks := B.notSynchronized
  have ht : ∀ w ∈ gx_tb, w.before _ s = true := fun w h => atoms_spec (ws := w_Mo_no) B.pre w (List.mem_cons_of_mem _ h)
  have hown : s.vm.findClass R_Mo = some m.cls := findClass_of_methodNamed B.named
  have G : gx_G p m c b_Mo_no 2 s _ gx_tb R_Mo D dA := ⟨⟨hx, hb, hml, hown, ht⟩, hK⟩
  have hI : gx_I D dA adr A s.heap σ s.heap [] := ⟨hP, va_S.rf⟩
  have hl := lv_entry ([.ref (adr 722), .int p0]) (n := 2) (Nat.le_of_ble_eq_true rfl)
  rw [lg_entry_eq]
  generalize (lg_sl ([.ref (adr 722), .int p0]) ++ List.replicate (2 - (lg_sl ([.ref (adr 722), .int p0])).length) Slot.unset).toArray = ls at hl ⊢
  have hl : lv_has ls 2 [(0, .ref (adr 722)), (1, .int p0)] := hl
  rw [fn_Mo_no] at hf
  refine lv_iload_n hx hb d_Mo_no_0 rfl (lv_at hl 1 rfl) ?_
  refine lv_if_lt (tgt := 12) hx hb d_Mo_no_1 (by decide) (fun c_1 => ?_) (fun c_1 => ?_)
  · replace hf := (if_pos c_1).symm.trans hf
    refine lv_iconst (v := 1) hx hb d_Mo_no_12 (by decide) ?_
    refine lv_goto (tgt := 17) hx hb d_Mo_no_13 (by decide) ?_
    cases hf
    exact W.zret (v := (1 : Int32)) hx hb hr (by decide) (gx_F hI) hI.2.2.2 d_Mo_no_17
  · replace hf := (if_neg c_1).symm.trans hf
    refine lv_iload_n hx hb d_Mo_no_4 rfl (lv_at hl 1 rfl) ?_
    refine lv_aload_n hx hb d_Mo_no_5 rfl (lv_at hl 0 rfl) ?_
    refine gx_getI G hI cl_Mo (by decide) 9 (by decide) (by decide) fl_Mo_35 d_Mo_no_6 ?_
    refine lv_icmp_lt (tgt := 16) hx hb d_Mo_no_9 (by decide) (fun c_2 => ?_) (fun c_2 => ?_)
    · replace hf := (if_pos c_2).symm.trans hf
      refine lv_iconst (v := 0) hx hb d_Mo_no_16 (by decide) ?_
      cases hf
      exact W.zret (v := (0 : Int32)) hx hb hr (by decide) (gx_F hI) hI.2.2.2 d_Mo_no_17
    · replace hf := (if_neg c_2).symm.trans hf
      refine lv_iconst (v := 1) hx hb d_Mo_no_12 (by decide) ?_
      refine lv_goto (tgt := 17) hx hb d_Mo_no_13 (by decide) ?_
      cases hf
      exact W.zret (v := (1 : Int32)) hx hb hr (by decide) (gx_F hI) hI.2.2.2 d_Mo_no_17
def fn_Mo_of (N : Nat) (p0 : Int32) (p1 : Int32) (σ : gx_M) : Option (Int32 × gx_M) := if 0 ≤ ((p0 * ((13 : Int32))) + p1) ∧ ((p0 * ((13 : Int32))) + p1) < 520 then (some (σ 729 ((p0 * ((13 : Int32))) + p1).toNatClampNeg, σ)) else none
set_option maxHeartbeats 4000000 in
set_option maxRecDepth 100000 in
theorem ct_Mo_of (l : Launch) (D : va_G) (dA : Nat → ClassId) (adr : Nat → Nat) (A : Nat → Prop) (hA : gx_A A adr) (N : Nat) (p0 : Int32) (p1 : Int32) (σ : gx_M) (r : Int32) (σ' : gx_M) (hf : fn_Mo_of N p0 p1 σ = some (r, σ')) : Met l y_Mo_of w_Mo_of rm_Mo_of (gx_Pc D dA adr σ [.ref (adr 722), .int p0, .int p1]) (gx_Q D dA adr A (some (.int r)) σ') 0 0 A := by
  refine Met.ofW (cc := b_Mo_of) (maxL := 3) (ret := some .int) (by decide) rfl ?_
  intro p e s m args below meth c s₁ B hml hv
  obtain ⟨rfl, hP, hK⟩ := hv
  have hx := B.exec
  have hb := B.bytes
  have hr := B.returns
  have hlocks := B.notSynchronized
  have ht : ∀ w ∈ gx_tb, w.before _ s = true := fun w h => atoms_spec (ws := w_Mo_of) B.pre w (List.mem_cons_of_mem _ h)
  have hown : s.vm.findClass R_Mo = some m.cls := findClass_of_methodNamed B.named
  have G : gx_G p m c b_Mo_of 3 s _ gx_tb R_Mo D dA := ⟨⟨hx, hb, hml, hown, ht⟩, hK⟩
  have hI : gx_I D dA adr A s.heap σ s.heap [] := ⟨hP, va_S.rf⟩
  have hl := lv_entry ([.ref (adr 722), .int p0, .int p1]) (n := 3) (Nat.le_of_ble_eq_true rfl)
  rw [lg_entry_eq]
  generalize (lg_sl ([.ref (adr 722), .int p0, .int p1]) ++ List.replicate (3 - (lg_sl ([.ref (adr 722), .int p0, .int p1])).length) Slot.unset).toArray = ls at hl ⊢
  have hl : lv_has ls 3 [(0, .ref (adr 722)), (1, .int p0), (2, .int p1)] := hl
  rw [fn_Mo_of] at hf
  refine lv_aload_n hx hb d_Mo_of_0 rfl (lv_at hl 0 rfl) ?_
  refine gx_getR (o' := 729) G hI cl_Mo (by decide) 12 (by decide) (by decide) fl_Mo_44 d_Mo_of_1 ?_
  refine lv_iload_n hx hb d_Mo_of_4 rfl (lv_at hl 1 rfl) ?_
  refine lv_bipush (v := 13) hx hb d_Mo_of_5 (by decide) ?_
  refine lv_imul hx hb d_Mo_of_7 ?_
  refine lv_iload_n hx hb d_Mo_of_8 rfl (lv_at hl 2 rfl) ?_
  refine lv_iadd hx hb d_Mo_of_9 ?_
  obtain ⟨hi_1, hf⟩ := gx_gd hf
  refine gx_ild G hI (by decide) (gx_in hi_1 (by decide)) d_Mo_of_10 ?_
  cases hf
  exact W.iret hx hb hr (gx_F hI) hI.2.2.2 d_Mo_of_11
def fn_Mo_set (N : Nat) (p0 : Int32) (p1 : Int32) (p2 : Int32) (σ : gx_M) : Option gx_M := if 0 ≤ ((p0 * ((13 : Int32))) + p1) ∧ ((p0 * ((13 : Int32))) + p1) < 520 then (gx_lt (gx_up σ 729 ((p0 * ((13 : Int32))) + p1).toNatClampNeg p2) (fun σ_2 => some σ_2)) else none
set_option maxHeartbeats 4000000 in
set_option maxRecDepth 100000 in
theorem ct_Mo_set (l : Launch) (D : va_G) (dA : Nat → ClassId) (adr : Nat → Nat) (A : Nat → Prop) (hA : gx_A A adr) (N : Nat) (p0 : Int32) (p1 : Int32) (p2 : Int32) (σ : gx_M) (σ' : gx_M) (hf : fn_Mo_set N p0 p1 p2 σ = some σ') : Met l y_Mo_set w_Mo_set rm_Mo_set (gx_Pc D dA adr σ [.ref (adr 722), .int p0, .int p1, .int p2]) (gx_Q D dA adr A none σ') 0 0 A := by
  refine Met.ofW (cc := b_Mo_set) (maxL := 4) (ret := none) (by decide) rfl ?_
  intro p e s m args below meth c s₁ B hml hv
  obtain ⟨rfl, hP, hK⟩ := hv
  have hx := B.exec
  have hb := B.bytes
  have hr := B.returns
  have hlocks := B.notSynchronized
  have ht : ∀ w ∈ gx_tb, w.before _ s = true := fun w h => atoms_spec (ws := w_Mo_set) B.pre w (List.mem_cons_of_mem _ h)
  have hown : s.vm.findClass R_Mo = some m.cls := findClass_of_methodNamed B.named
  have G : gx_G p m c b_Mo_set 4 s _ gx_tb R_Mo D dA := ⟨⟨hx, hb, hml, hown, ht⟩, hK⟩
  have hI : gx_I D dA adr A s.heap σ s.heap [] := ⟨hP, va_S.rf⟩
  have hl := lv_entry ([.ref (adr 722), .int p0, .int p1, .int p2]) (n := 4) (Nat.le_of_ble_eq_true rfl)
  rw [lg_entry_eq]
  generalize (lg_sl ([.ref (adr 722), .int p0, .int p1, .int p2]) ++ List.replicate (4 - (lg_sl ([.ref (adr 722), .int p0, .int p1, .int p2])).length) Slot.unset).toArray = ls at hl ⊢
  have hl : lv_has ls 4 [(0, .ref (adr 722)), (1, .int p0), (2, .int p1), (3, .int p2)] := hl
  rw [fn_Mo_set] at hf
  refine lv_aload_n hx hb d_Mo_set_0 rfl (lv_at hl 0 rfl) ?_
  refine gx_getR (o' := 729) G hI cl_Mo (by decide) 12 (by decide) (by decide) fl_Mo_44 d_Mo_set_1 ?_
  refine lv_iload_n hx hb d_Mo_set_4 rfl (lv_at hl 1 rfl) ?_
  refine lv_bipush (v := 13) hx hb d_Mo_set_5 (by decide) ?_
  refine lv_imul hx hb d_Mo_set_7 ?_
  refine lv_iload_n hx hb d_Mo_set_8 rfl (lv_at hl 2 rfl) ?_
  refine lv_iadd hx hb d_Mo_set_9 ?_
  refine lv_iload_n hx hb d_Mo_set_10 rfl (lv_at hl 3 rfl) ?_
  obtain ⟨hi_1, hf⟩ := gx_gd hf
  obtain ⟨σ_2, eσ_2, hf⟩ := gx_lte hf
  refine gx_ist G hI hA (by decide) (gx_in hi_1 (by decide)) eσ_2 d_Mo_set_11 (fun H locs hI => ?_)
  cases hf
  exact W.vret hx hb hr (gx_F hI) hI.2.2.2 d_Mo_set_12
def fn_Mo_store_L2 (N : Nat) (u1 : Int32) : Nat → Int32 → gx_M → Option gx_M
  | 0, _, _ => none
  | n + 1, v2, σ => if ((520 : Int32)) ≤ v2 then (if 0 ≤ u1 ∧ u1 < 16 then (gx_lt (gx_up σ 731 u1.toNatClampNeg (σ 722 9)) (fun σ_3 => some σ_3)) else none) else (if 0 ≤ v2 ∧ v2 < 520 then (if 0 ≤ ((u1 * ((520 : Int32))) + v2) ∧ ((u1 * ((520 : Int32))) + v2) < 8320 then (gx_lt (gx_up σ 730 ((u1 * ((520 : Int32))) + v2).toNatClampNeg (σ 729 v2.toNatClampNeg)) (fun σ_6 => fn_Mo_store_L2 N u1 n (v2 + 1) σ_6)) else none) else none)
def fn_Mo_store (N : Nat) (p0 : Int32) (σ : gx_M) : Option gx_M := fn_Mo_store_L2 N p0 N ((0 : Int32)) σ
set_option maxHeartbeats 4000000 in
set_option maxRecDepth 100000 in
theorem wl_Mo_store_L2 {p : Program} {l : Launch} {e : Env} {s : State} {m : MethodId} {args : Array Value} {below : List Frame} {meth : Method} {c : Code} {D : va_G} {dA : Nat → ClassId} {adr : Nat → Nat} {A : Nat → Prop} (G : gx_G p m c b_Mo_store 3 s args gx_tb R_Mo D dA) (hr : meth.sig.returnType = none) (hlocks : meth.locks = false) (hA : gx_A A adr) (N : Nat) (res : gx_M) (u1 : Int32) : ∀ (n : Nat) (v2 : Int32) (σ : gx_M) (H : Heap) (locs : List Loc) (ls : Array Slot), fn_Mo_store_L2 N u1 n v2 σ = some res → gx_I D dA adr A s.heap σ H locs → lv_has ls 3 [(2, .int v2), (0, .ref (adr 722)), (1, .int u1)] → W p l e (headSpec w_Mo_store rm_Mo_store).room s m args below meth c H locs 0 0 (MQ below (gx_Q D dA adr A none res) args s 0 0 A) (F0 m 2 ls []) := by
  obtain ⟨⟨hx, hb, hml, hown, ht⟩, hK⟩ := id G
  intro n
  induction n with
  | zero =>
    intro v2 σ H locs ls hf
    cases hf
  | succ n ih =>
    intro v2 σ H locs ls hf hI hl
    rw [fn_Mo_store_L2] at hf
    refine lv_iload_n hx hb d_Mo_store_2 rfl (lv_at hl 0 rfl) ?_
    refine lv_sipush (v := 520) hx hb d_Mo_store_3 (by decide) ?_
    refine lv_icmp_ge (tgt := 33) hx hb d_Mo_store_6 (by decide) (fun c_1 => ?_) (fun c_1 => ?_)
    · replace hf := (if_pos c_1).symm.trans hf
      refine lv_aload_n hx hb d_Mo_store_33 rfl (lv_at hl 1 rfl) ?_
      refine gx_getR (o' := 731) G hI cl_Mo (by decide) 14 (by decide) (by decide) fl_Mo_50 d_Mo_store_34 ?_
      refine lv_iload_n hx hb d_Mo_store_37 rfl (lv_at hl 2 rfl) ?_
      refine lv_aload_n hx hb d_Mo_store_38 rfl (lv_at hl 1 rfl) ?_
      refine gx_getI G hI cl_Mo (by decide) 9 (by decide) (by decide) fl_Mo_35 d_Mo_store_39 ?_
      obtain ⟨hi_2, hf⟩ := gx_gd hf
      obtain ⟨σ_3, eσ_3, hf⟩ := gx_lte hf
      refine gx_ist G hI hA (by decide) (gx_in hi_2 (by decide)) eσ_3 d_Mo_store_42 (fun H locs hI => ?_)
      cases hf
      exact W.vret hx hb hr (gx_F hI) hI.2.2.2 d_Mo_store_43
    · replace hf := (if_neg c_1).symm.trans hf
      refine lv_aload_n hx hb d_Mo_store_9 rfl (lv_at hl 1 rfl) ?_
      refine gx_getR (o' := 730) G hI cl_Mo (by decide) 13 (by decide) (by decide) fl_Mo_47 d_Mo_store_10 ?_
      refine lv_iload_n hx hb d_Mo_store_13 rfl (lv_at hl 2 rfl) ?_
      refine lv_sipush (v := 520) hx hb d_Mo_store_14 (by decide) ?_
      refine lv_imul hx hb d_Mo_store_17 ?_
      refine lv_iload_n hx hb d_Mo_store_18 rfl (lv_at hl 0 rfl) ?_
      refine lv_iadd hx hb d_Mo_store_19 ?_
      refine lv_aload_n hx hb d_Mo_store_20 rfl (lv_at hl 1 rfl) ?_
      refine gx_getR (o' := 729) G hI cl_Mo (by decide) 12 (by decide) (by decide) fl_Mo_44 d_Mo_store_21 ?_
      refine lv_iload_n hx hb d_Mo_store_24 rfl (lv_at hl 0 rfl) ?_
      obtain ⟨hi_4, hf⟩ := gx_gd hf
      refine gx_ild G hI (by decide) (gx_in hi_4 (by decide)) d_Mo_store_25 ?_
      obtain ⟨hi_5, hf⟩ := gx_gd hf
      obtain ⟨σ_6, eσ_6, hf⟩ := gx_lte hf
      refine gx_ist G hI hA (by decide) (gx_in hi_5 (by decide)) eσ_6 d_Mo_store_26 (fun H locs hI => ?_)
      refine lv_iinc (v := v2 + 1) (lv' := [(2, .int (v2 + 1)), (0, .ref (adr 722)), (1, .int u1)]) hx hb d_Mo_store_27 hl (k := 0) rfl rfl (by decide) rfl (fun ls hl => ?_)
      refine lv_goto (tgt := 2) hx hb d_Mo_store_30 (by decide) ?_
      exact ih (v2 + 1) σ_6 H locs ls hf hI (lv_sub hl [0, 1, 2] rfl)
set_option maxHeartbeats 4000000 in
set_option maxRecDepth 100000 in
theorem ct_Mo_store (l : Launch) (D : va_G) (dA : Nat → ClassId) (adr : Nat → Nat) (A : Nat → Prop) (hA : gx_A A adr) (N : Nat) (p0 : Int32) (σ : gx_M) (σ' : gx_M) (hf : fn_Mo_store N p0 σ = some σ') : Met l y_Mo_store w_Mo_store rm_Mo_store (gx_Pc D dA adr σ [.ref (adr 722), .int p0]) (gx_Q D dA adr A none σ') 0 0 A := by
  refine Met.ofW (cc := b_Mo_store) (maxL := 3) (ret := none) (by decide) rfl ?_
  intro p e s m args below meth c s₁ B hml hv
  obtain ⟨rfl, hP, hK⟩ := hv
  have hx := B.exec
  have hb := B.bytes
  have hr := B.returns
  have hlocks := B.notSynchronized
  have ht : ∀ w ∈ gx_tb, w.before _ s = true := fun w h => atoms_spec (ws := w_Mo_store) B.pre w (List.mem_cons_of_mem _ h)
  have hown : s.vm.findClass R_Mo = some m.cls := findClass_of_methodNamed B.named
  have G : gx_G p m c b_Mo_store 3 s _ gx_tb R_Mo D dA := ⟨⟨hx, hb, hml, hown, ht⟩, hK⟩
  have hI : gx_I D dA adr A s.heap σ s.heap [] := ⟨hP, va_S.rf⟩
  have hl := lv_entry ([.ref (adr 722), .int p0]) (n := 3) (Nat.le_of_ble_eq_true rfl)
  rw [lg_entry_eq]
  generalize (lg_sl ([.ref (adr 722), .int p0]) ++ List.replicate (3 - (lg_sl ([.ref (adr 722), .int p0])).length) Slot.unset).toArray = ls at hl ⊢
  have hl : lv_has ls 3 [(0, .ref (adr 722)), (1, .int p0)] := hl
  rw [fn_Mo_store] at hf
  refine lv_iconst (v := 0) hx hb d_Mo_store_0 (by decide) ?_
  refine lv_istore_n (i := 2) (lv' := [(2, .int ((0 : Int32))), (0, .ref (adr 722)), (1, .int p0)]) hx hb d_Mo_store_1 rfl hl (by decide) rfl (fun ls hl => ?_)
  exact wl_Mo_store_L2 G hr hlocks hA N _ p0 N ((0 : Int32)) σ _ _ ls hf hI (lv_sub hl [0, 1, 2] rfl)
def fn_Mo_note (N : Nat) (σ : gx_M) : Option gx_M := gx_lt (gx_up σ 722 11 ((σ 722 11) + ((1 : Int32)))) (fun σ_1 => if (σ_1 722 11) = ((16 : Int32)) then (gx_lt (gx_up σ_1 722 11 ((0 : Int32))) (fun σ_5 => gx_bv (fn_Mo_store N (σ_5 722 11) σ_5) (fun σ_6 => some σ_6))) else (gx_bv (fn_Mo_store N (σ_1 722 11) σ_1) (fun σ_3 => some σ_3)))
set_option maxHeartbeats 4000000 in
set_option maxRecDepth 100000 in
theorem ct_Mo_note (l : Launch) (D : va_G) (dA : Nat → ClassId) (adr : Nat → Nat) (A : Nat → Prop) (hA : gx_A A adr) (N : Nat) (σ : gx_M) (σ' : gx_M) (hf : fn_Mo_note N σ = some σ') : Met l y_Mo_note w_Mo_note rm_Mo_note (gx_Pc D dA adr σ [.ref (adr 722)]) (gx_Q D dA adr A none σ') 0 0 A := by
  refine Met.ofW (cc := b_Mo_note) (maxL := 1) (ret := none) (by decide) rfl ?_
  intro p e s m args below meth c s₁ B hml hv
  obtain ⟨rfl, hP, hK⟩ := hv
  have hx := B.exec
  have hb := B.bytes
  have hr := B.returns
  have hlocks := B.notSynchronized
  have ht : ∀ w ∈ gx_tb, w.before _ s = true := fun w h => atoms_spec (ws := w_Mo_note) B.pre w (List.mem_cons_of_mem _ h)
  have hown : s.vm.findClass R_Mo = some m.cls := findClass_of_methodNamed B.named
  have G : gx_G p m c b_Mo_note 1 s _ gx_tb R_Mo D dA := ⟨⟨hx, hb, hml, hown, ht⟩, hK⟩
  have hI : gx_I D dA adr A s.heap σ s.heap [] := ⟨hP, va_S.rf⟩
  have hl := lv_entry ([.ref (adr 722)]) (n := 1) (Nat.le_of_ble_eq_true rfl)
  rw [lg_entry_eq]
  generalize (lg_sl ([.ref (adr 722)]) ++ List.replicate (1 - (lg_sl ([.ref (adr 722)])).length) Slot.unset).toArray = ls at hl ⊢
  have hl : lv_has ls 1 [(0, .ref (adr 722))] := hl
  rw [fn_Mo_note] at hf
  refine lv_aload_n hx hb d_Mo_note_0 rfl (lv_at hl 0 rfl) ?_
  refine lv_dup hx hb d_Mo_note_1 rfl ?_
  refine gx_getI G hI cl_Mo (by decide) 11 (by decide) (by decide) fl_Mo_41 d_Mo_note_2 ?_
  refine lv_iconst (v := 1) hx hb d_Mo_note_5 (by decide) ?_
  refine lv_iadd hx hb d_Mo_note_6 ?_
  obtain ⟨σ_1, eσ_1, hf⟩ := gx_lte hf
  refine gx_put G hI hA cl_Mo (by decide) 11 (by decide) (by decide) fl_Mo_41 rfl rfl rfl eσ_1 d_Mo_note_7 (fun H locs hI => ?_)
  refine lv_aload_n hx hb d_Mo_note_10 rfl (lv_at hl 0 rfl) ?_
  refine gx_getI G hI cl_Mo (by decide) 11 (by decide) (by decide) fl_Mo_41 d_Mo_note_11 ?_
  refine lv_bipush (v := 16) hx hb d_Mo_note_14 (by decide) ?_
  refine lv_icmp_ne (tgt := 24) hx hb d_Mo_note_16 (by decide) (fun c_2 => ?_) (fun c_2 => ?_)
  · replace hf := (if_neg c_2).symm.trans hf
    refine lv_aload_n hx hb d_Mo_note_24 rfl (lv_at hl 0 rfl) ?_
    refine lv_aload_n hx hb d_Mo_note_25 rfl (lv_at hl 0 rfl) ?_
    refine gx_getI G hI cl_Mo (by decide) 11 (by decide) (by decide) fl_Mo_41 d_Mo_note_26 ?_
    obtain ⟨σ_3, hc_4, hf⟩ := gx_bve hf
    refine gx_go (va_runV (As := [.int (σ_1 722 11)]) (rest := []) G.1 (ct_Mo_store l D dA adr A hA N (σ_1 722 11) σ_1 σ_3 hc_4) (cwV 1 ht gi_Mo_61 rfl rfl rfl (by decide +kernel) ⟨Nat.le_of_ble_eq_true rfl, Nat.le_of_ble_eq_true rfl⟩) (gx_preV G hI cl_Mo (by decide)) rfl rfl hl.1 rfl (lv_room (Nat.le_of_ble_eq_true rfl)) d_Mo_note_29 ⟨Nat.zero_le _, Nat.zero_le _⟩) hI (st1 := []) rfl (fun H locs hI => ?_)
    cases hf
    exact W.vret hx hb hr (gx_F hI) hI.2.2.2 d_Mo_note_32
  · replace hf := (if_pos c_2).symm.trans hf
    refine lv_aload_n hx hb d_Mo_note_19 rfl (lv_at hl 0 rfl) ?_
    refine lv_iconst (v := 0) hx hb d_Mo_note_20 (by decide) ?_
    obtain ⟨σ_5, eσ_5, hf⟩ := gx_lte hf
    refine gx_put G hI hA cl_Mo (by decide) 11 (by decide) (by decide) fl_Mo_41 rfl rfl rfl eσ_5 d_Mo_note_21 (fun H locs hI => ?_)
    refine lv_aload_n hx hb d_Mo_note_24 rfl (lv_at hl 0 rfl) ?_
    refine lv_aload_n hx hb d_Mo_note_25 rfl (lv_at hl 0 rfl) ?_
    refine gx_getI G hI cl_Mo (by decide) 11 (by decide) (by decide) fl_Mo_41 d_Mo_note_26 ?_
    obtain ⟨σ_6, hc_7, hf⟩ := gx_bve hf
    refine gx_go (va_runV (As := [.int (σ_5 722 11)]) (rest := []) G.1 (ct_Mo_store l D dA adr A hA N (σ_5 722 11) σ_5 σ_6 hc_7) (cwV 1 ht gi_Mo_61 rfl rfl rfl (by decide +kernel) ⟨Nat.le_of_ble_eq_true rfl, Nat.le_of_ble_eq_true rfl⟩) (gx_preV G hI cl_Mo (by decide)) rfl rfl hl.1 rfl (lv_room (Nat.le_of_ble_eq_true rfl)) d_Mo_note_29 ⟨Nat.zero_le _, Nat.zero_le _⟩) hI (st1 := []) rfl (fun H locs hI => ?_)
    cases hf
    exact W.vret hx hb hr (gx_F hI) hI.2.2.2 d_Mo_note_32
def fn_Mo_flush (N : Nat) (σ : gx_M) : Option (Int32 × gx_M) := gx_lt (gx_up σ 722 11 ((0 : Int32))) (fun σ_1 => gx_bv (fn_Mo_store N ((0 : Int32)) σ_1) (fun σ_2 => some (σ 722 11, σ_2)))
set_option maxHeartbeats 4000000 in
set_option maxRecDepth 100000 in
theorem ct_Mo_flush (l : Launch) (D : va_G) (dA : Nat → ClassId) (adr : Nat → Nat) (A : Nat → Prop) (hA : gx_A A adr) (N : Nat) (σ : gx_M) (r : Int32) (σ' : gx_M) (hf : fn_Mo_flush N σ = some (r, σ')) : Met l y_Mo_flush w_Mo_flush rm_Mo_flush (gx_Pc D dA adr σ [.ref (adr 722)]) (gx_Q D dA adr A (some (.int r)) σ') 0 0 A := by
  refine Met.ofW (cc := b_Mo_flush) (maxL := 2) (ret := some .int) (by decide) rfl ?_
  intro p e s m args below meth c s₁ B hml hv
  obtain ⟨rfl, hP, hK⟩ := hv
  have hx := B.exec
  have hb := B.bytes
  have hr := B.returns
  have hlocks := B.notSynchronized
  have ht : ∀ w ∈ gx_tb, w.before _ s = true := fun w h => atoms_spec (ws := w_Mo_flush) B.pre w (List.mem_cons_of_mem _ h)
  have hown : s.vm.findClass R_Mo = some m.cls := findClass_of_methodNamed B.named
  have G : gx_G p m c b_Mo_flush 2 s _ gx_tb R_Mo D dA := ⟨⟨hx, hb, hml, hown, ht⟩, hK⟩
  have hI : gx_I D dA adr A s.heap σ s.heap [] := ⟨hP, va_S.rf⟩
  have hl := lv_entry ([.ref (adr 722)]) (n := 2) (Nat.le_of_ble_eq_true rfl)
  rw [lg_entry_eq]
  generalize (lg_sl ([.ref (adr 722)]) ++ List.replicate (2 - (lg_sl ([.ref (adr 722)])).length) Slot.unset).toArray = ls at hl ⊢
  have hl : lv_has ls 2 [(0, .ref (adr 722))] := hl
  rw [fn_Mo_flush] at hf
  refine lv_aload_n hx hb d_Mo_flush_0 rfl (lv_at hl 0 rfl) ?_
  refine gx_getI G hI cl_Mo (by decide) 11 (by decide) (by decide) fl_Mo_41 d_Mo_flush_1 ?_
  refine lv_istore_n (i := 1) (lv' := [(1, .int (σ 722 11)), (0, .ref (adr 722))]) hx hb d_Mo_flush_4 rfl hl (by decide) rfl (fun ls hl => ?_)
  refine lv_aload_n hx hb d_Mo_flush_5 rfl (lv_at hl 1 rfl) ?_
  refine lv_iconst (v := 0) hx hb d_Mo_flush_6 (by decide) ?_
  obtain ⟨σ_1, eσ_1, hf⟩ := gx_lte hf
  refine gx_put G hI hA cl_Mo (by decide) 11 (by decide) (by decide) fl_Mo_41 rfl rfl rfl eσ_1 d_Mo_flush_7 (fun H locs hI => ?_)
  refine lv_aload_n hx hb d_Mo_flush_10 rfl (lv_at hl 1 rfl) ?_
  refine lv_iconst (v := 0) hx hb d_Mo_flush_11 (by decide) ?_
  obtain ⟨σ_2, hc_3, hf⟩ := gx_bve hf
  refine gx_go (va_runV (As := [.int ((0 : Int32))]) (rest := []) G.1 (ct_Mo_store l D dA adr A hA N ((0 : Int32)) σ_1 σ_2 hc_3) (cwV 1 ht gi_Mo_61 rfl rfl rfl (by decide +kernel) ⟨Nat.le_of_ble_eq_true rfl, Nat.le_of_ble_eq_true rfl⟩) (gx_preV G hI cl_Mo (by decide)) rfl rfl hl.1 rfl (lv_room (Nat.le_of_ble_eq_true rfl)) d_Mo_flush_12 ⟨Nat.zero_le _, Nat.zero_le _⟩) hI (st1 := []) rfl (fun H locs hI => ?_)
  refine lv_iload_n hx hb d_Mo_flush_15 rfl (lv_at hl 0 rfl) ?_
  cases hf
  exact W.iret hx hb hr (gx_F hI) hI.2.2.2 d_Mo_flush_16
def fn_Mo_isLive (N : Nat) (p0 : Int32) (σ : gx_M) : Option (Int32 × gx_M) := gx_bd (fn_Mo_of N p0 ((9 : Int32)) σ) (fun r_3 σ_1 => if r_3 < ((4 : Int32)) then (some ((1 : Int32), σ_1)) else (if r_3 = ((6 : Int32)) then (some ((1 : Int32), σ_1)) else (some ((0 : Int32), σ_1))))
set_option maxHeartbeats 4000000 in
set_option maxRecDepth 100000 in
theorem ct_Mo_isLive (l : Launch) (D : va_G) (dA : Nat → ClassId) (adr : Nat → Nat) (A : Nat → Prop) (hA : gx_A A adr) (N : Nat) (p0 : Int32) (σ : gx_M) (r : Int32) (σ' : gx_M) (hf : fn_Mo_isLive N p0 σ = some (r, σ')) : Met l y_Mo_isLive w_Mo_isLive rm_Mo_isLive (gx_Pc D dA adr σ [.ref (adr 722), .int p0]) (gx_Q D dA adr A (some (.int r)) σ') 0 0 A := by
  refine Met.ofW (cc := b_Mo_isLive) (maxL := 3) (ret := some .boolean) (by decide) rfl ?_
  intro p e s m args below meth c s₁ B hml hv
  obtain ⟨rfl, hP, hK⟩ := hv
  have hx := B.exec
  have hb := B.bytes
  have hr := B.returns
  have hlocks := B.notSynchronized
  have ht : ∀ w ∈ gx_tb, w.before _ s = true := fun w h => atoms_spec (ws := w_Mo_isLive) B.pre w (List.mem_cons_of_mem _ h)
  have hown : s.vm.findClass R_Mo = some m.cls := findClass_of_methodNamed B.named
  have G : gx_G p m c b_Mo_isLive 3 s _ gx_tb R_Mo D dA := ⟨⟨hx, hb, hml, hown, ht⟩, hK⟩
  have hI : gx_I D dA adr A s.heap σ s.heap [] := ⟨hP, va_S.rf⟩
  have hl := lv_entry ([.ref (adr 722), .int p0]) (n := 3) (Nat.le_of_ble_eq_true rfl)
  rw [lg_entry_eq]
  generalize (lg_sl ([.ref (adr 722), .int p0]) ++ List.replicate (3 - (lg_sl ([.ref (adr 722), .int p0])).length) Slot.unset).toArray = ls at hl ⊢
  have hl : lv_has ls 3 [(0, .ref (adr 722)), (1, .int p0)] := hl
  rw [fn_Mo_isLive] at hf
  refine lv_aload_n hx hb d_Mo_isLive_0 rfl (lv_at hl 0 rfl) ?_
  refine lv_iload_n hx hb d_Mo_isLive_1 rfl (lv_at hl 1 rfl) ?_
  refine lv_bipush (v := 9) hx hb d_Mo_isLive_2 (by decide) ?_
  obtain ⟨r_3, σ_1, hc_2, hf⟩ := gx_bde hf
  refine gx_go (va_runV (As := [.int p0, .int ((9 : Int32))]) (rest := []) G.1 (ct_Mo_of l D dA adr A hA N p0 ((9 : Int32)) σ r_3 σ_1 hc_2) (cwV 2 ht gi_Mo_65 rfl rfl rfl (by decide +kernel) ⟨Nat.le_of_ble_eq_true rfl, Nat.le_of_ble_eq_true rfl⟩) (gx_preV G hI cl_Mo (by decide)) rfl rfl hl.1 rfl (lv_room (Nat.le_of_ble_eq_true rfl)) d_Mo_isLive_4 ⟨Nat.zero_le _, Nat.zero_le _⟩) hI (st1 := [.int r_3]) rfl (fun H locs hI => ?_)
  refine lv_istore_n (i := 2) (lv' := [(2, .int r_3), (0, .ref (adr 722)), (1, .int p0)]) hx hb d_Mo_isLive_7 rfl hl (by decide) rfl (fun ls hl => ?_)
  refine lv_iload_n hx hb d_Mo_isLive_8 rfl (lv_at hl 0 rfl) ?_
  refine lv_iconst (v := 4) hx hb d_Mo_isLive_9 (by decide) ?_
  refine lv_icmp_lt (tgt := 19) hx hb d_Mo_isLive_10 (by decide) (fun c_4 => ?_) (fun c_4 => ?_)
  · replace hf := (if_pos c_4).symm.trans hf
    refine lv_iconst (v := 1) hx hb d_Mo_isLive_19 (by decide) ?_
    refine lv_goto (tgt := 24) hx hb d_Mo_isLive_20 (by decide) ?_
    cases hf
    exact W.zret (v := (1 : Int32)) hx hb hr (by decide) (gx_F hI) hI.2.2.2 d_Mo_isLive_24
  · replace hf := (if_neg c_4).symm.trans hf
    refine lv_iload_n hx hb d_Mo_isLive_13 rfl (lv_at hl 0 rfl) ?_
    refine lv_bipush (v := 6) hx hb d_Mo_isLive_14 (by decide) ?_
    refine lv_icmp_ne (tgt := 23) hx hb d_Mo_isLive_16 (by decide) (fun c_5 => ?_) (fun c_5 => ?_)
    · replace hf := (if_neg c_5).symm.trans hf
      refine lv_iconst (v := 0) hx hb d_Mo_isLive_23 (by decide) ?_
      cases hf
      exact W.zret (v := (0 : Int32)) hx hb hr (by decide) (gx_F hI) hI.2.2.2 d_Mo_isLive_24
    · replace hf := (if_pos c_5).symm.trans hf
      refine lv_iconst (v := 1) hx hb d_Mo_isLive_19 (by decide) ?_
      refine lv_goto (tgt := 24) hx hb d_Mo_isLive_20 (by decide) ?_
      cases hf
      exact W.zret (v := (1 : Int32)) hx hb hr (by decide) (gx_F hI) hI.2.2.2 d_Mo_isLive_24
def fn_Mo_ready (N : Nat) (p0 : Int32) (σ : gx_M) : Option gx_M := gx_bv (fn_Mo_set N p0 ((9 : Int32)) ((1 : Int32)) σ) (fun σ_1 => gx_bv (fn_Mo_set N p0 ((12 : Int32)) (σ_1 722 10) σ_1) (fun σ_3 => gx_lt (gx_up σ_3 722 10 ((σ_3 722 10) + ((1 : Int32)))) (fun σ_5 => some σ_5)))
set_option maxHeartbeats 4000000 in
set_option maxRecDepth 100000 in
theorem ct_Mo_ready (l : Launch) (D : va_G) (dA : Nat → ClassId) (adr : Nat → Nat) (A : Nat → Prop) (hA : gx_A A adr) (N : Nat) (p0 : Int32) (σ : gx_M) (σ' : gx_M) (hf : fn_Mo_ready N p0 σ = some σ') : Met l y_Mo_ready w_Mo_ready rm_Mo_ready (gx_Pc D dA adr σ [.ref (adr 722), .int p0]) (gx_Q D dA adr A none σ') 0 0 A := by
  refine Met.ofW (cc := b_Mo_ready) (maxL := 2) (ret := none) (by decide) rfl ?_
  intro p e s m args below meth c s₁ B hml hv
  obtain ⟨rfl, hP, hK⟩ := hv
  have hx := B.exec
  have hb := B.bytes
  have hr := B.returns
  have hlocks := B.notSynchronized
  have ht : ∀ w ∈ gx_tb, w.before _ s = true := fun w h => atoms_spec (ws := w_Mo_ready) B.pre w (List.mem_cons_of_mem _ h)
  have hown : s.vm.findClass R_Mo = some m.cls := findClass_of_methodNamed B.named
  have G : gx_G p m c b_Mo_ready 2 s _ gx_tb R_Mo D dA := ⟨⟨hx, hb, hml, hown, ht⟩, hK⟩
  have hI : gx_I D dA adr A s.heap σ s.heap [] := ⟨hP, va_S.rf⟩
  have hl := lv_entry ([.ref (adr 722), .int p0]) (n := 2) (Nat.le_of_ble_eq_true rfl)
  rw [lg_entry_eq]
  generalize (lg_sl ([.ref (adr 722), .int p0]) ++ List.replicate (2 - (lg_sl ([.ref (adr 722), .int p0])).length) Slot.unset).toArray = ls at hl ⊢
  have hl : lv_has ls 2 [(0, .ref (adr 722)), (1, .int p0)] := hl
  rw [fn_Mo_ready] at hf
  refine lv_aload_n hx hb d_Mo_ready_0 rfl (lv_at hl 0 rfl) ?_
  refine lv_iload_n hx hb d_Mo_ready_1 rfl (lv_at hl 1 rfl) ?_
  refine lv_bipush (v := 9) hx hb d_Mo_ready_2 (by decide) ?_
  refine lv_iconst (v := 1) hx hb d_Mo_ready_4 (by decide) ?_
  obtain ⟨σ_1, hc_2, hf⟩ := gx_bve hf
  refine gx_go (va_runV (As := [.int p0, .int ((9 : Int32)), .int ((1 : Int32))]) (rest := []) G.1 (ct_Mo_set l D dA adr A hA N p0 ((9 : Int32)) ((1 : Int32)) σ σ_1 hc_2) (cwV 3 ht gi_Mo_69 rfl rfl rfl (by decide +kernel) ⟨Nat.le_of_ble_eq_true rfl, Nat.le_of_ble_eq_true rfl⟩) (gx_preV G hI cl_Mo (by decide)) rfl rfl hl.1 rfl (lv_room (Nat.le_of_ble_eq_true rfl)) d_Mo_ready_5 ⟨Nat.zero_le _, Nat.zero_le _⟩) hI (st1 := []) rfl (fun H locs hI => ?_)
  refine lv_aload_n hx hb d_Mo_ready_8 rfl (lv_at hl 0 rfl) ?_
  refine lv_iload_n hx hb d_Mo_ready_9 rfl (lv_at hl 1 rfl) ?_
  refine lv_bipush (v := 12) hx hb d_Mo_ready_10 (by decide) ?_
  refine lv_aload_n hx hb d_Mo_ready_12 rfl (lv_at hl 0 rfl) ?_
  refine gx_getI G hI cl_Mo (by decide) 10 (by decide) (by decide) fl_Mo_38 d_Mo_ready_13 ?_
  obtain ⟨σ_3, hc_4, hf⟩ := gx_bve hf
  refine gx_go (va_runV (As := [.int p0, .int ((12 : Int32)), .int (σ_1 722 10)]) (rest := []) G.1 (ct_Mo_set l D dA adr A hA N p0 ((12 : Int32)) (σ_1 722 10) σ_1 σ_3 hc_4) (cwV 3 ht gi_Mo_69 rfl rfl rfl (by decide +kernel) ⟨Nat.le_of_ble_eq_true rfl, Nat.le_of_ble_eq_true rfl⟩) (gx_preV G hI cl_Mo (by decide)) rfl rfl hl.1 rfl (lv_room (Nat.le_of_ble_eq_true rfl)) d_Mo_ready_16 ⟨Nat.zero_le _, Nat.zero_le _⟩) hI (st1 := []) rfl (fun H locs hI => ?_)
  refine lv_aload_n hx hb d_Mo_ready_19 rfl (lv_at hl 0 rfl) ?_
  refine lv_dup hx hb d_Mo_ready_20 rfl ?_
  refine gx_getI G hI cl_Mo (by decide) 10 (by decide) (by decide) fl_Mo_38 d_Mo_ready_21 ?_
  refine lv_iconst (v := 1) hx hb d_Mo_ready_24 (by decide) ?_
  refine lv_iadd hx hb d_Mo_ready_25 ?_
  obtain ⟨σ_5, eσ_5, hf⟩ := gx_lte hf
  refine gx_put G hI hA cl_Mo (by decide) 10 (by decide) (by decide) fl_Mo_38 rfl rfl rfl eσ_5 d_Mo_ready_26 (fun H locs hI => ?_)
  cases hf
  exact W.vret hx hb hr (gx_F hI) hI.2.2.2 d_Mo_ready_29
def fn_Mo_die_L7 (N : Nat) (u1 : Int32) : Nat → Int32 → Int32 → Int32 → gx_M → Option gx_M
  | 0, _, _, _, _ => none
  | n + 1, v4, v3, v2, σ => if (σ 722 9) ≤ v4 then (if v2 < ((8 : Int32)) then (gx_bv (fn_Mo_set N u1 ((9 : Int32)) ((5 : Int32)) σ) (fun σ_3 => gx_bv (fn_Mo_set N u1 ((12 : Int32)) (σ_3 722 10) σ_3) (fun σ_5 => gx_lt (gx_up σ_5 722 10 ((σ_5 722 10) + ((1 : Int32)))) (fun σ_7 => some σ_7)))) else (gx_bv (fn_Mo_set N v3 ((9 : Int32)) ((7 : Int32)) σ) (fun σ_8 => gx_bv (fn_Mo_set N u1 ((9 : Int32)) ((5 : Int32)) σ_8) (fun σ_10 => gx_bv (fn_Mo_set N u1 ((12 : Int32)) (σ_10 722 10) σ_10) (fun σ_12 => gx_lt (gx_up σ_12 722 10 ((σ_12 722 10) + ((1 : Int32)))) (fun σ_14 => some σ_14)))))) else (gx_bd (fn_Mo_of N v4 ((9 : Int32)) σ) (fun r_17 σ_15 => if r_17 = ((5 : Int32)) then (if v4 = u1 then (fn_Mo_die_L7 N u1 n (v4 + 1) v3 v2 σ_15) else (if v3 < 0 then (fn_Mo_die_L7 N u1 n (v4 + 1) v4 (v2 + 1) σ_15) else (gx_bd (fn_Mo_of N v4 ((12 : Int32)) σ_15) (fun r_23 σ_21 => gx_bd (fn_Mo_of N v3 ((12 : Int32)) σ_21) (fun r_26 σ_24 => if r_26 ≤ r_23 then (fn_Mo_die_L7 N u1 n (v4 + 1) v3 (v2 + 1) σ_24) else (fn_Mo_die_L7 N u1 n (v4 + 1) v4 (v2 + 1) σ_24)))))) else (fn_Mo_die_L7 N u1 n (v4 + 1) v3 v2 σ_15)))
def fn_Mo_die (N : Nat) (p0 : Int32) (σ : gx_M) : Option gx_M := fn_Mo_die_L7 N p0 N ((0 : Int32)) ((-1 : Int32)) ((0 : Int32)) σ
set_option maxHeartbeats 4000000 in
set_option maxRecDepth 100000 in
theorem wl_Mo_die_L7 {p : Program} {l : Launch} {e : Env} {s : State} {m : MethodId} {args : Array Value} {below : List Frame} {meth : Method} {c : Code} {D : va_G} {dA : Nat → ClassId} {adr : Nat → Nat} {A : Nat → Prop} (G : gx_G p m c b_Mo_die 5 s args gx_tb R_Mo D dA) (hr : meth.sig.returnType = none) (hlocks : meth.locks = false) (hA : gx_A A adr) (N : Nat) (res : gx_M) (u1 : Int32) : ∀ (n : Nat) (v4 : Int32) (v3 : Int32) (v2 : Int32) (σ : gx_M) (H : Heap) (locs : List Loc) (ls : Array Slot), fn_Mo_die_L7 N u1 n v4 v3 v2 σ = some res → gx_I D dA adr A s.heap σ H locs → lv_has ls 5 [(4, .int v4), (3, .int v3), (2, .int v2), (0, .ref (adr 722)), (1, .int u1)] → W p l e (headSpec w_Mo_die rm_Mo_die).room s m args below meth c H locs 0 0 (MQ below (gx_Q D dA adr A none res) args s 0 0 A) (F0 m 7 ls []) := by
  obtain ⟨⟨hx, hb, hml, hown, ht⟩, hK⟩ := id G
  intro n
  induction n with
  | zero =>
    intro v4 v3 v2 σ H locs ls hf
    cases hf
  | succ n ih =>
    intro v4 v3 v2 σ H locs ls hf hI hl
    rw [fn_Mo_die_L7] at hf
    refine lv_iload hx hb d_Mo_die_7 (lv_at hl 0 rfl) ?_
    refine lv_aload_n hx hb d_Mo_die_9 rfl (lv_at hl 3 rfl) ?_
    refine gx_getI G hI cl_Mo (by decide) 9 (by decide) (by decide) fl_Mo_35 d_Mo_die_10 ?_
    refine lv_icmp_ge (tgt := 71) hx hb d_Mo_die_13 (by decide) (fun c_1 => ?_) (fun c_1 => ?_)
    · replace hf := (if_pos c_1).symm.trans hf
      refine lv_iload_n hx hb d_Mo_die_71 rfl (lv_at hl 2 rfl) ?_
      refine lv_bipush (v := 8) hx hb d_Mo_die_72 (by decide) ?_
      refine lv_icmp_lt (tgt := 86) hx hb d_Mo_die_74 (by decide) (fun c_2 => ?_) (fun c_2 => ?_)
      · replace hf := (if_pos c_2).symm.trans hf
        refine lv_aload_n hx hb d_Mo_die_86 rfl (lv_at hl 3 rfl) ?_
        refine lv_iload_n hx hb d_Mo_die_87 rfl (lv_at hl 4 rfl) ?_
        refine lv_bipush (v := 9) hx hb d_Mo_die_88 (by decide) ?_
        refine lv_iconst (v := 5) hx hb d_Mo_die_90 (by decide) ?_
        obtain ⟨σ_3, hc_4, hf⟩ := gx_bve hf
        refine gx_go (va_runV (As := [.int u1, .int ((9 : Int32)), .int ((5 : Int32))]) (rest := []) G.1 (ct_Mo_set l D dA adr A hA N u1 ((9 : Int32)) ((5 : Int32)) σ σ_3 hc_4) (cwV 3 ht gi_Mo_69 rfl rfl rfl (by decide +kernel) ⟨Nat.le_of_ble_eq_true rfl, Nat.le_of_ble_eq_true rfl⟩) (gx_preV G hI cl_Mo (by decide)) rfl rfl hl.1 rfl (lv_room (Nat.le_of_ble_eq_true rfl)) d_Mo_die_91 ⟨Nat.zero_le _, Nat.zero_le _⟩) hI (st1 := []) rfl (fun H locs hI => ?_)
        refine lv_aload_n hx hb d_Mo_die_94 rfl (lv_at hl 3 rfl) ?_
        refine lv_iload_n hx hb d_Mo_die_95 rfl (lv_at hl 4 rfl) ?_
        refine lv_bipush (v := 12) hx hb d_Mo_die_96 (by decide) ?_
        refine lv_aload_n hx hb d_Mo_die_98 rfl (lv_at hl 3 rfl) ?_
        refine gx_getI G hI cl_Mo (by decide) 10 (by decide) (by decide) fl_Mo_38 d_Mo_die_99 ?_
        obtain ⟨σ_5, hc_6, hf⟩ := gx_bve hf
        refine gx_go (va_runV (As := [.int u1, .int ((12 : Int32)), .int (σ_3 722 10)]) (rest := []) G.1 (ct_Mo_set l D dA adr A hA N u1 ((12 : Int32)) (σ_3 722 10) σ_3 σ_5 hc_6) (cwV 3 ht gi_Mo_69 rfl rfl rfl (by decide +kernel) ⟨Nat.le_of_ble_eq_true rfl, Nat.le_of_ble_eq_true rfl⟩) (gx_preV G hI cl_Mo (by decide)) rfl rfl hl.1 rfl (lv_room (Nat.le_of_ble_eq_true rfl)) d_Mo_die_102 ⟨Nat.zero_le _, Nat.zero_le _⟩) hI (st1 := []) rfl (fun H locs hI => ?_)
        refine lv_aload_n hx hb d_Mo_die_105 rfl (lv_at hl 3 rfl) ?_
        refine lv_dup hx hb d_Mo_die_106 rfl ?_
        refine gx_getI G hI cl_Mo (by decide) 10 (by decide) (by decide) fl_Mo_38 d_Mo_die_107 ?_
        refine lv_iconst (v := 1) hx hb d_Mo_die_110 (by decide) ?_
        refine lv_iadd hx hb d_Mo_die_111 ?_
        obtain ⟨σ_7, eσ_7, hf⟩ := gx_lte hf
        refine gx_put G hI hA cl_Mo (by decide) 10 (by decide) (by decide) fl_Mo_38 rfl rfl rfl eσ_7 d_Mo_die_112 (fun H locs hI => ?_)
        cases hf
        exact W.vret hx hb hr (gx_F hI) hI.2.2.2 d_Mo_die_115
      · replace hf := (if_neg c_2).symm.trans hf
        refine lv_aload_n hx hb d_Mo_die_77 rfl (lv_at hl 3 rfl) ?_
        refine lv_iload_n hx hb d_Mo_die_78 rfl (lv_at hl 1 rfl) ?_
        refine lv_bipush (v := 9) hx hb d_Mo_die_79 (by decide) ?_
        refine lv_bipush (v := 7) hx hb d_Mo_die_81 (by decide) ?_
        obtain ⟨σ_8, hc_9, hf⟩ := gx_bve hf
        refine gx_go (va_runV (As := [.int v3, .int ((9 : Int32)), .int ((7 : Int32))]) (rest := []) G.1 (ct_Mo_set l D dA adr A hA N v3 ((9 : Int32)) ((7 : Int32)) σ σ_8 hc_9) (cwV 3 ht gi_Mo_69 rfl rfl rfl (by decide +kernel) ⟨Nat.le_of_ble_eq_true rfl, Nat.le_of_ble_eq_true rfl⟩) (gx_preV G hI cl_Mo (by decide)) rfl rfl hl.1 rfl (lv_room (Nat.le_of_ble_eq_true rfl)) d_Mo_die_83 ⟨Nat.zero_le _, Nat.zero_le _⟩) hI (st1 := []) rfl (fun H locs hI => ?_)
        refine lv_aload_n hx hb d_Mo_die_86 rfl (lv_at hl 3 rfl) ?_
        refine lv_iload_n hx hb d_Mo_die_87 rfl (lv_at hl 4 rfl) ?_
        refine lv_bipush (v := 9) hx hb d_Mo_die_88 (by decide) ?_
        refine lv_iconst (v := 5) hx hb d_Mo_die_90 (by decide) ?_
        obtain ⟨σ_10, hc_11, hf⟩ := gx_bve hf
        refine gx_go (va_runV (As := [.int u1, .int ((9 : Int32)), .int ((5 : Int32))]) (rest := []) G.1 (ct_Mo_set l D dA adr A hA N u1 ((9 : Int32)) ((5 : Int32)) σ_8 σ_10 hc_11) (cwV 3 ht gi_Mo_69 rfl rfl rfl (by decide +kernel) ⟨Nat.le_of_ble_eq_true rfl, Nat.le_of_ble_eq_true rfl⟩) (gx_preV G hI cl_Mo (by decide)) rfl rfl hl.1 rfl (lv_room (Nat.le_of_ble_eq_true rfl)) d_Mo_die_91 ⟨Nat.zero_le _, Nat.zero_le _⟩) hI (st1 := []) rfl (fun H locs hI => ?_)
        refine lv_aload_n hx hb d_Mo_die_94 rfl (lv_at hl 3 rfl) ?_
        refine lv_iload_n hx hb d_Mo_die_95 rfl (lv_at hl 4 rfl) ?_
        refine lv_bipush (v := 12) hx hb d_Mo_die_96 (by decide) ?_
        refine lv_aload_n hx hb d_Mo_die_98 rfl (lv_at hl 3 rfl) ?_
        refine gx_getI G hI cl_Mo (by decide) 10 (by decide) (by decide) fl_Mo_38 d_Mo_die_99 ?_
        obtain ⟨σ_12, hc_13, hf⟩ := gx_bve hf
        refine gx_go (va_runV (As := [.int u1, .int ((12 : Int32)), .int (σ_10 722 10)]) (rest := []) G.1 (ct_Mo_set l D dA adr A hA N u1 ((12 : Int32)) (σ_10 722 10) σ_10 σ_12 hc_13) (cwV 3 ht gi_Mo_69 rfl rfl rfl (by decide +kernel) ⟨Nat.le_of_ble_eq_true rfl, Nat.le_of_ble_eq_true rfl⟩) (gx_preV G hI cl_Mo (by decide)) rfl rfl hl.1 rfl (lv_room (Nat.le_of_ble_eq_true rfl)) d_Mo_die_102 ⟨Nat.zero_le _, Nat.zero_le _⟩) hI (st1 := []) rfl (fun H locs hI => ?_)
        refine lv_aload_n hx hb d_Mo_die_105 rfl (lv_at hl 3 rfl) ?_
        refine lv_dup hx hb d_Mo_die_106 rfl ?_
        refine gx_getI G hI cl_Mo (by decide) 10 (by decide) (by decide) fl_Mo_38 d_Mo_die_107 ?_
        refine lv_iconst (v := 1) hx hb d_Mo_die_110 (by decide) ?_
        refine lv_iadd hx hb d_Mo_die_111 ?_
        obtain ⟨σ_14, eσ_14, hf⟩ := gx_lte hf
        refine gx_put G hI hA cl_Mo (by decide) 10 (by decide) (by decide) fl_Mo_38 rfl rfl rfl eσ_14 d_Mo_die_112 (fun H locs hI => ?_)
        cases hf
        exact W.vret hx hb hr (gx_F hI) hI.2.2.2 d_Mo_die_115
    · replace hf := (if_neg c_1).symm.trans hf
      refine lv_aload_n hx hb d_Mo_die_16 rfl (lv_at hl 3 rfl) ?_
      refine lv_iload hx hb d_Mo_die_17 (lv_at hl 0 rfl) ?_
      refine lv_bipush (v := 9) hx hb d_Mo_die_19 (by decide) ?_
      obtain ⟨r_17, σ_15, hc_16, hf⟩ := gx_bde hf
      refine gx_go (va_runV (As := [.int v4, .int ((9 : Int32))]) (rest := []) G.1 (ct_Mo_of l D dA adr A hA N v4 ((9 : Int32)) σ r_17 σ_15 hc_16) (cwV 2 ht gi_Mo_65 rfl rfl rfl (by decide +kernel) ⟨Nat.le_of_ble_eq_true rfl, Nat.le_of_ble_eq_true rfl⟩) (gx_preV G hI cl_Mo (by decide)) rfl rfl hl.1 rfl (lv_room (Nat.le_of_ble_eq_true rfl)) d_Mo_die_21 ⟨Nat.zero_le _, Nat.zero_le _⟩) hI (st1 := [.int r_17]) rfl (fun H locs hI => ?_)
      refine lv_iconst (v := 5) hx hb d_Mo_die_24 (by decide) ?_
      refine lv_icmp_ne (tgt := 65) hx hb d_Mo_die_25 (by decide) (fun c_18 => ?_) (fun c_18 => ?_)
      · replace hf := (if_neg c_18).symm.trans hf
        refine lv_iinc (v := v4 + 1) (lv' := [(4, .int (v4 + 1)), (3, .int v3), (2, .int v2), (0, .ref (adr 722)), (1, .int u1)]) hx hb d_Mo_die_65 hl (k := 0) rfl rfl (by decide) rfl (fun ls hl => ?_)
        refine lv_goto (tgt := 7) hx hb d_Mo_die_68 (by decide) ?_
        exact ih (v4 + 1) v3 v2 σ_15 H locs ls hf hI (lv_sub hl [0, 1, 2, 3, 4] rfl)
      · replace hf := (if_pos c_18).symm.trans hf
        refine lv_iload hx hb d_Mo_die_28 (lv_at hl 0 rfl) ?_
        refine lv_iload_n hx hb d_Mo_die_30 rfl (lv_at hl 4 rfl) ?_
        refine lv_icmp_ne (tgt := 37) hx hb d_Mo_die_31 (by decide) (fun c_19 => ?_) (fun c_19 => ?_)
        · replace hf := (if_neg c_19).symm.trans hf
          refine lv_iinc (v := v2 + 1) (lv' := [(2, .int (v2 + 1)), (4, .int v4), (3, .int v3), (0, .ref (adr 722)), (1, .int u1)]) hx hb d_Mo_die_37 hl (k := 2) rfl rfl (by decide) rfl (fun ls hl => ?_)
          refine lv_iload_n hx hb d_Mo_die_40 rfl (lv_at hl 2 rfl) ?_
          refine lv_if_lt (tgt := 62) hx hb d_Mo_die_41 (by decide) (fun c_20 => ?_) (fun c_20 => ?_)
          · replace hf := (if_pos c_20).symm.trans hf
            refine lv_iload hx hb d_Mo_die_62 (lv_at hl 1 rfl) ?_
            refine lv_istore_n (i := 3) (lv' := [(3, .int v4), (2, .int (v2 + 1)), (4, .int v4), (0, .ref (adr 722)), (1, .int u1)]) hx hb d_Mo_die_64 rfl hl (by decide) rfl (fun ls hl => ?_)
            refine lv_iinc (v := v4 + 1) (lv' := [(4, .int (v4 + 1)), (3, .int v4), (2, .int (v2 + 1)), (0, .ref (adr 722)), (1, .int u1)]) hx hb d_Mo_die_65 hl (k := 2) rfl rfl (by decide) rfl (fun ls hl => ?_)
            refine lv_goto (tgt := 7) hx hb d_Mo_die_68 (by decide) ?_
            exact ih (v4 + 1) v4 (v2 + 1) σ_15 H locs ls hf hI (lv_sub hl [0, 1, 2, 3, 4] rfl)
          · replace hf := (if_neg c_20).symm.trans hf
            refine lv_aload_n hx hb d_Mo_die_44 rfl (lv_at hl 3 rfl) ?_
            refine lv_iload hx hb d_Mo_die_45 (lv_at hl 1 rfl) ?_
            refine lv_bipush (v := 12) hx hb d_Mo_die_47 (by decide) ?_
            obtain ⟨r_23, σ_21, hc_22, hf⟩ := gx_bde hf
            refine gx_go (va_runV (As := [.int v4, .int ((12 : Int32))]) (rest := []) G.1 (ct_Mo_of l D dA adr A hA N v4 ((12 : Int32)) σ_15 r_23 σ_21 hc_22) (cwV 2 ht gi_Mo_65 rfl rfl rfl (by decide +kernel) ⟨Nat.le_of_ble_eq_true rfl, Nat.le_of_ble_eq_true rfl⟩) (gx_preV G hI cl_Mo (by decide)) rfl rfl hl.1 rfl (lv_room (Nat.le_of_ble_eq_true rfl)) d_Mo_die_49 ⟨Nat.zero_le _, Nat.zero_le _⟩) hI (st1 := [.int r_23]) rfl (fun H locs hI => ?_)
            refine lv_aload_n hx hb d_Mo_die_52 rfl (lv_at hl 3 rfl) ?_
            refine lv_iload_n hx hb d_Mo_die_53 rfl (lv_at hl 2 rfl) ?_
            refine lv_bipush (v := 12) hx hb d_Mo_die_54 (by decide) ?_
            obtain ⟨r_26, σ_24, hc_25, hf⟩ := gx_bde hf
            refine gx_go (va_runV (As := [.int v3, .int ((12 : Int32))]) (rest := [.int r_23]) G.1 (ct_Mo_of l D dA adr A hA N v3 ((12 : Int32)) σ_21 r_26 σ_24 hc_25) (cwV 2 ht gi_Mo_65 rfl rfl rfl (by decide +kernel) ⟨Nat.le_of_ble_eq_true rfl, Nat.le_of_ble_eq_true rfl⟩) (gx_preV G hI cl_Mo (by decide)) rfl rfl hl.1 rfl (lv_room (Nat.le_of_ble_eq_true rfl)) d_Mo_die_56 ⟨Nat.zero_le _, Nat.zero_le _⟩) hI (st1 := [.int r_26, .int r_23]) rfl (fun H locs hI => ?_)
            refine lv_icmp_ge (tgt := 65) hx hb d_Mo_die_59 (by decide) (fun c_27 => ?_) (fun c_27 => ?_)
            · replace hf := (if_pos c_27).symm.trans hf
              refine lv_iinc (v := v4 + 1) (lv' := [(4, .int (v4 + 1)), (2, .int (v2 + 1)), (3, .int v3), (0, .ref (adr 722)), (1, .int u1)]) hx hb d_Mo_die_65 hl (k := 1) rfl rfl (by decide) rfl (fun ls hl => ?_)
              refine lv_goto (tgt := 7) hx hb d_Mo_die_68 (by decide) ?_
              exact ih (v4 + 1) v3 (v2 + 1) σ_24 H locs ls hf hI (lv_sub hl [0, 2, 1, 3, 4] rfl)
            · replace hf := (if_neg c_27).symm.trans hf
              refine lv_iload hx hb d_Mo_die_62 (lv_at hl 1 rfl) ?_
              refine lv_istore_n (i := 3) (lv' := [(3, .int v4), (2, .int (v2 + 1)), (4, .int v4), (0, .ref (adr 722)), (1, .int u1)]) hx hb d_Mo_die_64 rfl hl (by decide) rfl (fun ls hl => ?_)
              refine lv_iinc (v := v4 + 1) (lv' := [(4, .int (v4 + 1)), (3, .int v4), (2, .int (v2 + 1)), (0, .ref (adr 722)), (1, .int u1)]) hx hb d_Mo_die_65 hl (k := 2) rfl rfl (by decide) rfl (fun ls hl => ?_)
              refine lv_goto (tgt := 7) hx hb d_Mo_die_68 (by decide) ?_
              exact ih (v4 + 1) v4 (v2 + 1) σ_24 H locs ls hf hI (lv_sub hl [0, 1, 2, 3, 4] rfl)
        · replace hf := (if_pos c_19).symm.trans hf
          refine lv_goto (tgt := 65) hx hb d_Mo_die_34 (by decide) ?_
          refine lv_iinc (v := v4 + 1) (lv' := [(4, .int (v4 + 1)), (3, .int v3), (2, .int v2), (0, .ref (adr 722)), (1, .int u1)]) hx hb d_Mo_die_65 hl (k := 0) rfl rfl (by decide) rfl (fun ls hl => ?_)
          refine lv_goto (tgt := 7) hx hb d_Mo_die_68 (by decide) ?_
          exact ih (v4 + 1) v3 v2 σ_15 H locs ls hf hI (lv_sub hl [0, 1, 2, 3, 4] rfl)
set_option maxHeartbeats 4000000 in
set_option maxRecDepth 100000 in
theorem ct_Mo_die (l : Launch) (D : va_G) (dA : Nat → ClassId) (adr : Nat → Nat) (A : Nat → Prop) (hA : gx_A A adr) (N : Nat) (p0 : Int32) (σ : gx_M) (σ' : gx_M) (hf : fn_Mo_die N p0 σ = some σ') : Met l y_Mo_die w_Mo_die rm_Mo_die (gx_Pc D dA adr σ [.ref (adr 722), .int p0]) (gx_Q D dA adr A none σ') 0 0 A := by
  refine Met.ofW (cc := b_Mo_die) (maxL := 5) (ret := none) (by decide) rfl ?_
  intro p e s m args below meth c s₁ B hml hv
  obtain ⟨rfl, hP, hK⟩ := hv
  have hx := B.exec
  have hb := B.bytes
  have hr := B.returns
  have hlocks := B.notSynchronized
  have ht : ∀ w ∈ gx_tb, w.before _ s = true := fun w h => atoms_spec (ws := w_Mo_die) B.pre w (List.mem_cons_of_mem _ h)
  have hown : s.vm.findClass R_Mo = some m.cls := findClass_of_methodNamed B.named
  have G : gx_G p m c b_Mo_die 5 s _ gx_tb R_Mo D dA := ⟨⟨hx, hb, hml, hown, ht⟩, hK⟩
  have hI : gx_I D dA adr A s.heap σ s.heap [] := ⟨hP, va_S.rf⟩
  have hl := lv_entry ([.ref (adr 722), .int p0]) (n := 5) (Nat.le_of_ble_eq_true rfl)
  rw [lg_entry_eq]
  generalize (lg_sl ([.ref (adr 722), .int p0]) ++ List.replicate (5 - (lg_sl ([.ref (adr 722), .int p0])).length) Slot.unset).toArray = ls at hl ⊢
  have hl : lv_has ls 5 [(0, .ref (adr 722)), (1, .int p0)] := hl
  rw [fn_Mo_die] at hf
  refine lv_iconst (v := 0) hx hb d_Mo_die_0 (by decide) ?_
  refine lv_istore_n (i := 2) (lv' := [(2, .int ((0 : Int32))), (0, .ref (adr 722)), (1, .int p0)]) hx hb d_Mo_die_1 rfl hl (by decide) rfl (fun ls hl => ?_)
  refine lv_iconst (v := (-1)) hx hb d_Mo_die_2 (by decide) ?_
  refine lv_istore_n (i := 3) (lv' := [(3, .int ((-1 : Int32))), (2, .int ((0 : Int32))), (0, .ref (adr 722)), (1, .int p0)]) hx hb d_Mo_die_3 rfl hl (by decide) rfl (fun ls hl => ?_)
  refine lv_iconst (v := 0) hx hb d_Mo_die_4 (by decide) ?_
  refine lv_istore (i := 4) (lv' := [(4, .int ((0 : Int32))), (3, .int ((-1 : Int32))), (2, .int ((0 : Int32))), (0, .ref (adr 722)), (1, .int p0)]) hx hb d_Mo_die_5 hl (by decide) rfl (fun ls hl => ?_)
  exact wl_Mo_die_L7 G hr hlocks hA N _ p0 N ((0 : Int32)) ((-1 : Int32)) ((0 : Int32)) σ _ _ ls hf hI (lv_sub hl [0, 1, 2, 3, 4] rfl)
def fn_Mo_failing_L52 (N : Nat) (u1 : Int32) : Nat → Int32 → Int32 → gx_M → Option gx_M
  | 0, _, _, _ => none
  | n + 1, v3, v2, σ => gx_bd (fn_Mo_of N u1 ((4 : Int32)) σ) (fun r_20 σ_18 => if r_20 ≤ v3 then (gx_bv (fn_Mo_set N u1 ((9 : Int32)) ((3 : Int32)) σ_18) (fun σ_22 => if v2 ≤ ((500 : Int32)) then (gx_bv (fn_Mo_set N u1 ((10 : Int32)) ((σ_22 722 1) + v2) σ_22) (fun σ_25 => some σ_25)) else (gx_bv (fn_Mo_set N u1 ((10 : Int32)) ((σ_22 722 1) + ((500 : Int32))) σ_22) (fun σ_27 => some σ_27)))) else (fn_Mo_failing_L52 N u1 n (v3 + 1) (v2 * ((2 : Int32))) σ_18))
def fn_Mo_failing (N : Nat) (p0 : Int32) (σ : gx_M) : Option gx_M := gx_bv (fn_Mo_set N p0 ((11 : Int32)) ((-1 : Int32)) σ) (fun σ_1 => gx_bd (fn_Mo_of N p0 ((4 : Int32)) σ_1) (fun r_5 σ_3 => gx_bv (fn_Mo_set N p0 ((4 : Int32)) (r_5 + ((1 : Int32))) σ_3) (fun σ_6 => gx_bd (fn_Mo_of N p0 ((4 : Int32)) σ_6) (fun r_10 σ_8 => gx_bd (fn_Mo_of N p0 ((2 : Int32)) σ_8) (fun r_13 σ_11 => if r_10 ≤ r_13 then (gx_bd (fn_Mo_of N p0 ((3 : Int32)) σ_11) (fun r_17 σ_15 => fn_Mo_failing_L52 N p0 N ((1 : Int32)) r_17 σ_15)) else (gx_bv (fn_Mo_die N p0 σ_11) (fun σ_29 => some σ_29)))))))
set_option maxHeartbeats 4000000 in
set_option maxRecDepth 100000 in
theorem wl_Mo_failing_L52 {p : Program} {l : Launch} {e : Env} {s : State} {m : MethodId} {args : Array Value} {below : List Frame} {meth : Method} {c : Code} {D : va_G} {dA : Nat → ClassId} {adr : Nat → Nat} {A : Nat → Prop} (G : gx_G p m c b_Mo_failing 4 s args gx_tb R_Mo D dA) (hr : meth.sig.returnType = none) (hlocks : meth.locks = false) (hA : gx_A A adr) (N : Nat) (res : gx_M) (u1 : Int32) : ∀ (n : Nat) (v3 : Int32) (v2 : Int32) (σ : gx_M) (H : Heap) (locs : List Loc) (ls : Array Slot), fn_Mo_failing_L52 N u1 n v3 v2 σ = some res → gx_I D dA adr A s.heap σ H locs → lv_has ls 4 [(3, .int v3), (2, .int v2), (0, .ref (adr 722)), (1, .int u1)] → W p l e (headSpec w_Mo_failing rm_Mo_failing).room s m args below meth c H locs 0 0 (MQ below (gx_Q D dA adr A none res) args s 0 0 A) (F0 m 52 ls []) := by
  obtain ⟨⟨hx, hb, hml, hown, ht⟩, hK⟩ := id G
  intro n
  induction n with
  | zero =>
    intro v3 v2 σ H locs ls hf
    cases hf
  | succ n ih =>
    intro v3 v2 σ H locs ls hf hI hl
    rw [fn_Mo_failing_L52] at hf
    refine lv_iload_n hx hb d_Mo_failing_52 rfl (lv_at hl 0 rfl) ?_
    refine lv_aload_n hx hb d_Mo_failing_53 rfl (lv_at hl 2 rfl) ?_
    refine lv_iload_n hx hb d_Mo_failing_54 rfl (lv_at hl 3 rfl) ?_
    refine lv_iconst (v := 4) hx hb d_Mo_failing_55 (by decide) ?_
    obtain ⟨r_20, σ_18, hc_19, hf⟩ := gx_bde hf
    refine gx_go (va_runV (As := [.int u1, .int ((4 : Int32))]) (rest := [.int v3]) G.1 (ct_Mo_of l D dA adr A hA N u1 ((4 : Int32)) σ r_20 σ_18 hc_19) (cwV 2 ht gi_Mo_65 rfl rfl rfl (by decide +kernel) ⟨Nat.le_of_ble_eq_true rfl, Nat.le_of_ble_eq_true rfl⟩) (gx_preV G hI cl_Mo (by decide)) rfl rfl hl.1 rfl (lv_room (Nat.le_of_ble_eq_true rfl)) d_Mo_failing_56 ⟨Nat.zero_le _, Nat.zero_le _⟩) hI (st1 := [.int r_20, .int v3]) rfl (fun H locs hI => ?_)
    refine lv_icmp_ge (tgt := 72) hx hb d_Mo_failing_59 (by decide) (fun c_21 => ?_) (fun c_21 => ?_)
    · replace hf := (if_pos c_21).symm.trans hf
      refine lv_aload_n hx hb d_Mo_failing_72 rfl (lv_at hl 2 rfl) ?_
      refine lv_iload_n hx hb d_Mo_failing_73 rfl (lv_at hl 3 rfl) ?_
      refine lv_bipush (v := 9) hx hb d_Mo_failing_74 (by decide) ?_
      refine lv_iconst (v := 3) hx hb d_Mo_failing_76 (by decide) ?_
      obtain ⟨σ_22, hc_23, hf⟩ := gx_bve hf
      refine gx_go (va_runV (As := [.int u1, .int ((9 : Int32)), .int ((3 : Int32))]) (rest := []) G.1 (ct_Mo_set l D dA adr A hA N u1 ((9 : Int32)) ((3 : Int32)) σ_18 σ_22 hc_23) (cwV 3 ht gi_Mo_69 rfl rfl rfl (by decide +kernel) ⟨Nat.le_of_ble_eq_true rfl, Nat.le_of_ble_eq_true rfl⟩) (gx_preV G hI cl_Mo (by decide)) rfl rfl hl.1 rfl (lv_room (Nat.le_of_ble_eq_true rfl)) d_Mo_failing_77 ⟨Nat.zero_le _, Nat.zero_le _⟩) hI (st1 := []) rfl (fun H locs hI => ?_)
      refine lv_aload_n hx hb d_Mo_failing_80 rfl (lv_at hl 2 rfl) ?_
      refine lv_iload_n hx hb d_Mo_failing_81 rfl (lv_at hl 3 rfl) ?_
      refine lv_bipush (v := 10) hx hb d_Mo_failing_82 (by decide) ?_
      refine lv_aload_n hx hb d_Mo_failing_84 rfl (lv_at hl 2 rfl) ?_
      refine gx_getI G hI cl_Mo (by decide) 1 (by decide) (by decide) fl_Mo_7 d_Mo_failing_85 ?_
      refine lv_iload_n hx hb d_Mo_failing_88 rfl (lv_at hl 1 rfl) ?_
      refine lv_sipush (v := 500) hx hb d_Mo_failing_89 (by decide) ?_
      refine lv_icmp_le (tgt := 101) hx hb d_Mo_failing_92 (by decide) (fun c_24 => ?_) (fun c_24 => ?_)
      · replace hf := (if_pos c_24).symm.trans hf
        refine lv_iload_n hx hb d_Mo_failing_101 rfl (lv_at hl 1 rfl) ?_
        refine lv_iadd hx hb d_Mo_failing_102 ?_
        obtain ⟨σ_25, hc_26, hf⟩ := gx_bve hf
        refine gx_go (va_runV (As := [.int u1, .int ((10 : Int32)), .int ((σ_22 722 1) + v2)]) (rest := []) G.1 (ct_Mo_set l D dA adr A hA N u1 ((10 : Int32)) ((σ_22 722 1) + v2) σ_22 σ_25 hc_26) (cwV 3 ht gi_Mo_69 rfl rfl rfl (by decide +kernel) ⟨Nat.le_of_ble_eq_true rfl, Nat.le_of_ble_eq_true rfl⟩) (gx_preV G hI cl_Mo (by decide)) rfl rfl hl.1 rfl (lv_room (Nat.le_of_ble_eq_true rfl)) d_Mo_failing_103 ⟨Nat.zero_le _, Nat.zero_le _⟩) hI (st1 := []) rfl (fun H locs hI => ?_)
        cases hf
        exact W.vret hx hb hr (gx_F hI) hI.2.2.2 d_Mo_failing_106
      · replace hf := (if_neg c_24).symm.trans hf
        refine lv_sipush (v := 500) hx hb d_Mo_failing_95 (by decide) ?_
        refine lv_goto (tgt := 102) hx hb d_Mo_failing_98 (by decide) ?_
        refine lv_iadd hx hb d_Mo_failing_102 ?_
        obtain ⟨σ_27, hc_28, hf⟩ := gx_bve hf
        refine gx_go (va_runV (As := [.int u1, .int ((10 : Int32)), .int ((σ_22 722 1) + ((500 : Int32)))]) (rest := []) G.1 (ct_Mo_set l D dA adr A hA N u1 ((10 : Int32)) ((σ_22 722 1) + ((500 : Int32))) σ_22 σ_27 hc_28) (cwV 3 ht gi_Mo_69 rfl rfl rfl (by decide +kernel) ⟨Nat.le_of_ble_eq_true rfl, Nat.le_of_ble_eq_true rfl⟩) (gx_preV G hI cl_Mo (by decide)) rfl rfl hl.1 rfl (lv_room (Nat.le_of_ble_eq_true rfl)) d_Mo_failing_103 ⟨Nat.zero_le _, Nat.zero_le _⟩) hI (st1 := []) rfl (fun H locs hI => ?_)
        cases hf
        exact W.vret hx hb hr (gx_F hI) hI.2.2.2 d_Mo_failing_106
    · replace hf := (if_neg c_21).symm.trans hf
      refine lv_iload_n hx hb d_Mo_failing_62 rfl (lv_at hl 1 rfl) ?_
      refine lv_iconst (v := 2) hx hb d_Mo_failing_63 (by decide) ?_
      refine lv_imul hx hb d_Mo_failing_64 ?_
      refine lv_istore_n (i := 2) (lv' := [(2, .int (v2 * ((2 : Int32)))), (3, .int v3), (0, .ref (adr 722)), (1, .int u1)]) hx hb d_Mo_failing_65 rfl hl (by decide) rfl (fun ls hl => ?_)
      refine lv_iinc (v := v3 + 1) (lv' := [(3, .int (v3 + 1)), (2, .int (v2 * ((2 : Int32)))), (0, .ref (adr 722)), (1, .int u1)]) hx hb d_Mo_failing_66 hl (k := 1) rfl rfl (by decide) rfl (fun ls hl => ?_)
      refine lv_goto (tgt := 52) hx hb d_Mo_failing_69 (by decide) ?_
      exact ih (v3 + 1) (v2 * ((2 : Int32))) σ_18 H locs ls hf hI (lv_sub hl [0, 1, 2, 3] rfl)
set_option maxHeartbeats 4000000 in
set_option maxRecDepth 100000 in
theorem ct_Mo_failing (l : Launch) (D : va_G) (dA : Nat → ClassId) (adr : Nat → Nat) (A : Nat → Prop) (hA : gx_A A adr) (N : Nat) (p0 : Int32) (σ : gx_M) (σ' : gx_M) (hf : fn_Mo_failing N p0 σ = some σ') : Met l y_Mo_failing w_Mo_failing rm_Mo_failing (gx_Pc D dA adr σ [.ref (adr 722), .int p0]) (gx_Q D dA adr A none σ') 0 0 A := by
  refine Met.ofW (cc := b_Mo_failing) (maxL := 4) (ret := none) (by decide) rfl ?_
  intro p e s m args below meth c s₁ B hml hv
  obtain ⟨rfl, hP, hK⟩ := hv
  have hx := B.exec
  have hb := B.bytes
  have hr := B.returns
  have hlocks := B.notSynchronized
  have ht : ∀ w ∈ gx_tb, w.before _ s = true := fun w h => atoms_spec (ws := w_Mo_failing) B.pre w (List.mem_cons_of_mem _ h)
  have hown : s.vm.findClass R_Mo = some m.cls := findClass_of_methodNamed B.named
  have G : gx_G p m c b_Mo_failing 4 s _ gx_tb R_Mo D dA := ⟨⟨hx, hb, hml, hown, ht⟩, hK⟩
  have hI : gx_I D dA adr A s.heap σ s.heap [] := ⟨hP, va_S.rf⟩
  have hl := lv_entry ([.ref (adr 722), .int p0]) (n := 4) (Nat.le_of_ble_eq_true rfl)
  rw [lg_entry_eq]
  generalize (lg_sl ([.ref (adr 722), .int p0]) ++ List.replicate (4 - (lg_sl ([.ref (adr 722), .int p0])).length) Slot.unset).toArray = ls at hl ⊢
  have hl : lv_has ls 4 [(0, .ref (adr 722)), (1, .int p0)] := hl
  rw [fn_Mo_failing] at hf
  refine lv_aload_n hx hb d_Mo_failing_0 rfl (lv_at hl 0 rfl) ?_
  refine lv_iload_n hx hb d_Mo_failing_1 rfl (lv_at hl 1 rfl) ?_
  refine lv_bipush (v := 11) hx hb d_Mo_failing_2 (by decide) ?_
  refine lv_iconst (v := (-1)) hx hb d_Mo_failing_4 (by decide) ?_
  obtain ⟨σ_1, hc_2, hf⟩ := gx_bve hf
  refine gx_go (va_runV (As := [.int p0, .int ((11 : Int32)), .int ((-1 : Int32))]) (rest := []) G.1 (ct_Mo_set l D dA adr A hA N p0 ((11 : Int32)) ((-1 : Int32)) σ σ_1 hc_2) (cwV 3 ht gi_Mo_69 rfl rfl rfl (by decide +kernel) ⟨Nat.le_of_ble_eq_true rfl, Nat.le_of_ble_eq_true rfl⟩) (gx_preV G hI cl_Mo (by decide)) rfl rfl hl.1 rfl (lv_room (Nat.le_of_ble_eq_true rfl)) d_Mo_failing_5 ⟨Nat.zero_le _, Nat.zero_le _⟩) hI (st1 := []) rfl (fun H locs hI => ?_)
  refine lv_aload_n hx hb d_Mo_failing_8 rfl (lv_at hl 0 rfl) ?_
  refine lv_iload_n hx hb d_Mo_failing_9 rfl (lv_at hl 1 rfl) ?_
  refine lv_iconst (v := 4) hx hb d_Mo_failing_10 (by decide) ?_
  refine lv_aload_n hx hb d_Mo_failing_11 rfl (lv_at hl 0 rfl) ?_
  refine lv_iload_n hx hb d_Mo_failing_12 rfl (lv_at hl 1 rfl) ?_
  refine lv_iconst (v := 4) hx hb d_Mo_failing_13 (by decide) ?_
  obtain ⟨r_5, σ_3, hc_4, hf⟩ := gx_bde hf
  refine gx_go (va_runV (As := [.int p0, .int ((4 : Int32))]) (rest := [.int ((4 : Int32)), .int p0, .ref (adr 722)]) G.1 (ct_Mo_of l D dA adr A hA N p0 ((4 : Int32)) σ_1 r_5 σ_3 hc_4) (cwV 2 ht gi_Mo_65 rfl rfl rfl (by decide +kernel) ⟨Nat.le_of_ble_eq_true rfl, Nat.le_of_ble_eq_true rfl⟩) (gx_preV G hI cl_Mo (by decide)) rfl rfl hl.1 rfl (lv_room (Nat.le_of_ble_eq_true rfl)) d_Mo_failing_14 ⟨Nat.zero_le _, Nat.zero_le _⟩) hI (st1 := [.int r_5, .int ((4 : Int32)), .int p0, .ref (adr 722)]) rfl (fun H locs hI => ?_)
  refine lv_iconst (v := 1) hx hb d_Mo_failing_17 (by decide) ?_
  refine lv_iadd hx hb d_Mo_failing_18 ?_
  obtain ⟨σ_6, hc_7, hf⟩ := gx_bve hf
  refine gx_go (va_runV (As := [.int p0, .int ((4 : Int32)), .int (r_5 + ((1 : Int32)))]) (rest := []) G.1 (ct_Mo_set l D dA adr A hA N p0 ((4 : Int32)) (r_5 + ((1 : Int32))) σ_3 σ_6 hc_7) (cwV 3 ht gi_Mo_69 rfl rfl rfl (by decide +kernel) ⟨Nat.le_of_ble_eq_true rfl, Nat.le_of_ble_eq_true rfl⟩) (gx_preV G hI cl_Mo (by decide)) rfl rfl hl.1 rfl (lv_room (Nat.le_of_ble_eq_true rfl)) d_Mo_failing_19 ⟨Nat.zero_le _, Nat.zero_le _⟩) hI (st1 := []) rfl (fun H locs hI => ?_)
  refine lv_aload_n hx hb d_Mo_failing_22 rfl (lv_at hl 0 rfl) ?_
  refine lv_iload_n hx hb d_Mo_failing_23 rfl (lv_at hl 1 rfl) ?_
  refine lv_iconst (v := 4) hx hb d_Mo_failing_24 (by decide) ?_
  obtain ⟨r_10, σ_8, hc_9, hf⟩ := gx_bde hf
  refine gx_go (va_runV (As := [.int p0, .int ((4 : Int32))]) (rest := []) G.1 (ct_Mo_of l D dA adr A hA N p0 ((4 : Int32)) σ_6 r_10 σ_8 hc_9) (cwV 2 ht gi_Mo_65 rfl rfl rfl (by decide +kernel) ⟨Nat.le_of_ble_eq_true rfl, Nat.le_of_ble_eq_true rfl⟩) (gx_preV G hI cl_Mo (by decide)) rfl rfl hl.1 rfl (lv_room (Nat.le_of_ble_eq_true rfl)) d_Mo_failing_25 ⟨Nat.zero_le _, Nat.zero_le _⟩) hI (st1 := [.int r_10]) rfl (fun H locs hI => ?_)
  refine lv_aload_n hx hb d_Mo_failing_28 rfl (lv_at hl 0 rfl) ?_
  refine lv_iload_n hx hb d_Mo_failing_29 rfl (lv_at hl 1 rfl) ?_
  refine lv_iconst (v := 2) hx hb d_Mo_failing_30 (by decide) ?_
  obtain ⟨r_13, σ_11, hc_12, hf⟩ := gx_bde hf
  refine gx_go (va_runV (As := [.int p0, .int ((2 : Int32))]) (rest := [.int r_10]) G.1 (ct_Mo_of l D dA adr A hA N p0 ((2 : Int32)) σ_8 r_13 σ_11 hc_12) (cwV 2 ht gi_Mo_65 rfl rfl rfl (by decide +kernel) ⟨Nat.le_of_ble_eq_true rfl, Nat.le_of_ble_eq_true rfl⟩) (gx_preV G hI cl_Mo (by decide)) rfl rfl hl.1 rfl (lv_room (Nat.le_of_ble_eq_true rfl)) d_Mo_failing_31 ⟨Nat.zero_le _, Nat.zero_le _⟩) hI (st1 := [.int r_13, .int r_10]) rfl (fun H locs hI => ?_)
  refine lv_icmp_le (tgt := 43) hx hb d_Mo_failing_34 (by decide) (fun c_14 => ?_) (fun c_14 => ?_)
  · replace hf := (if_pos c_14).symm.trans hf
    refine lv_aload_n hx hb d_Mo_failing_43 rfl (lv_at hl 0 rfl) ?_
    refine lv_iload_n hx hb d_Mo_failing_44 rfl (lv_at hl 1 rfl) ?_
    refine lv_iconst (v := 3) hx hb d_Mo_failing_45 (by decide) ?_
    obtain ⟨r_17, σ_15, hc_16, hf⟩ := gx_bde hf
    refine gx_go (va_runV (As := [.int p0, .int ((3 : Int32))]) (rest := []) G.1 (ct_Mo_of l D dA adr A hA N p0 ((3 : Int32)) σ_11 r_17 σ_15 hc_16) (cwV 2 ht gi_Mo_65 rfl rfl rfl (by decide +kernel) ⟨Nat.le_of_ble_eq_true rfl, Nat.le_of_ble_eq_true rfl⟩) (gx_preV G hI cl_Mo (by decide)) rfl rfl hl.1 rfl (lv_room (Nat.le_of_ble_eq_true rfl)) d_Mo_failing_46 ⟨Nat.zero_le _, Nat.zero_le _⟩) hI (st1 := [.int r_17]) rfl (fun H locs hI => ?_)
    refine lv_istore_n (i := 2) (lv' := [(2, .int r_17), (0, .ref (adr 722)), (1, .int p0)]) hx hb d_Mo_failing_49 rfl hl (by decide) rfl (fun ls hl => ?_)
    refine lv_iconst (v := 1) hx hb d_Mo_failing_50 (by decide) ?_
    refine lv_istore_n (i := 3) (lv' := [(3, .int ((1 : Int32))), (2, .int r_17), (0, .ref (adr 722)), (1, .int p0)]) hx hb d_Mo_failing_51 rfl hl (by decide) rfl (fun ls hl => ?_)
    exact wl_Mo_failing_L52 G hr hlocks hA N _ p0 N ((1 : Int32)) r_17 σ_15 _ _ ls hf hI (lv_sub hl [0, 1, 2, 3] rfl)
  · replace hf := (if_neg c_14).symm.trans hf
    refine lv_aload_n hx hb d_Mo_failing_37 rfl (lv_at hl 0 rfl) ?_
    refine lv_iload_n hx hb d_Mo_failing_38 rfl (lv_at hl 1 rfl) ?_
    obtain ⟨σ_29, hc_30, hf⟩ := gx_bve hf
    refine gx_go (va_runV (As := [.int p0]) (rest := []) G.1 (ct_Mo_die l D dA adr A hA N p0 σ_11 σ_29 hc_30) (cwV 1 ht gi_Mo_73 rfl rfl rfl (by decide +kernel) ⟨Nat.le_of_ble_eq_true rfl, Nat.le_of_ble_eq_true rfl⟩) (gx_preV G hI cl_Mo (by decide)) rfl rfl hl.1 rfl (lv_room (Nat.le_of_ble_eq_true rfl)) d_Mo_failing_39 ⟨Nat.zero_le _, Nat.zero_le _⟩) hI (st1 := []) rfl (fun H locs hI => ?_)
    cases hf
    exact W.vret hx hb hr (gx_F hI) hI.2.2.2 d_Mo_failing_42
def fn_Mo_keyTaken_L2 (N : Nat) (u1 : Int32) : Nat → Int32 → gx_M → Option (Int32 × gx_M)
  | 0, _, _ => none
  | n + 1, v2, σ => if (σ 722 9) ≤ v2 then (some ((0 : Int32), σ)) else (if u1 < 0 then (some ((0 : Int32), σ)) else (gx_bd (fn_Mo_isLive N v2 σ) (fun r_5 σ_3 => if r_5 = 0 then (fn_Mo_keyTaken_L2 N u1 n (v2 + 1) σ_3) else (gx_bd (fn_Mo_of N v2 ((5 : Int32)) σ_3) (fun r_9 σ_7 => if r_9 = u1 then (some ((1 : Int32), σ_7)) else (fn_Mo_keyTaken_L2 N u1 n (v2 + 1) σ_7))))))
def fn_Mo_keyTaken (N : Nat) (p0 : Int32) (σ : gx_M) : Option (Int32 × gx_M) := fn_Mo_keyTaken_L2 N p0 N ((0 : Int32)) σ
set_option maxHeartbeats 4000000 in
set_option maxRecDepth 100000 in
theorem wl_Mo_keyTaken_L2 {p : Program} {l : Launch} {e : Env} {s : State} {m : MethodId} {args : Array Value} {below : List Frame} {meth : Method} {c : Code} {D : va_G} {dA : Nat → ClassId} {adr : Nat → Nat} {A : Nat → Prop} (G : gx_G p m c b_Mo_keyTaken 3 s args gx_tb R_Mo D dA) (hr : meth.sig.returnType = some .boolean) (hlocks : meth.locks = false) (hA : gx_A A adr) (N : Nat) (res : Int32 × gx_M) (u1 : Int32) : ∀ (n : Nat) (v2 : Int32) (σ : gx_M) (H : Heap) (locs : List Loc) (ls : Array Slot), fn_Mo_keyTaken_L2 N u1 n v2 σ = some res → gx_I D dA adr A s.heap σ H locs → lv_has ls 3 [(2, .int v2), (0, .ref (adr 722)), (1, .int u1)] → W p l e (headSpec w_Mo_keyTaken rm_Mo_keyTaken).room s m args below meth c H locs 0 0 (MQ below (gx_Q D dA adr A (some (.int res.1)) res.2) args s 0 0 A) (F0 m 2 ls []) := by
  obtain ⟨⟨hx, hb, hml, hown, ht⟩, hK⟩ := id G
  intro n
  induction n with
  | zero =>
    intro v2 σ H locs ls hf
    cases hf
  | succ n ih =>
    intro v2 σ H locs ls hf hI hl
    rw [fn_Mo_keyTaken_L2] at hf
    refine lv_iload_n hx hb d_Mo_keyTaken_2 rfl (lv_at hl 0 rfl) ?_
    refine lv_aload_n hx hb d_Mo_keyTaken_3 rfl (lv_at hl 1 rfl) ?_
    refine gx_getI G hI cl_Mo (by decide) 9 (by decide) (by decide) fl_Mo_35 d_Mo_keyTaken_4 ?_
    refine lv_icmp_ge (tgt := 40) hx hb d_Mo_keyTaken_7 (by decide) (fun c_1 => ?_) (fun c_1 => ?_)
    · replace hf := (if_pos c_1).symm.trans hf
      refine lv_iconst (v := 0) hx hb d_Mo_keyTaken_40 (by decide) ?_
      cases hf
      exact W.zret (v := (0 : Int32)) hx hb hr (by decide) (gx_F hI) hI.2.2.2 d_Mo_keyTaken_41
    · replace hf := (if_neg c_1).symm.trans hf
      refine lv_iload_n hx hb d_Mo_keyTaken_10 rfl (lv_at hl 2 rfl) ?_
      refine lv_if_lt (tgt := 40) hx hb d_Mo_keyTaken_11 (by decide) (fun c_2 => ?_) (fun c_2 => ?_)
      · replace hf := (if_pos c_2).symm.trans hf
        refine lv_iconst (v := 0) hx hb d_Mo_keyTaken_40 (by decide) ?_
        cases hf
        exact W.zret (v := (0 : Int32)) hx hb hr (by decide) (gx_F hI) hI.2.2.2 d_Mo_keyTaken_41
      · replace hf := (if_neg c_2).symm.trans hf
        refine lv_aload_n hx hb d_Mo_keyTaken_14 rfl (lv_at hl 1 rfl) ?_
        refine lv_iload_n hx hb d_Mo_keyTaken_15 rfl (lv_at hl 0 rfl) ?_
        obtain ⟨r_5, σ_3, hc_4, hf⟩ := gx_bde hf
        refine gx_go (va_runV (As := [.int v2]) (rest := []) G.1 (ct_Mo_isLive l D dA adr A hA N v2 σ r_5 σ_3 hc_4) (cwV 1 ht gi_Mo_76 rfl rfl rfl (by decide +kernel) ⟨Nat.le_of_ble_eq_true rfl, Nat.le_of_ble_eq_true rfl⟩) (gx_preV G hI cl_Mo (by decide)) rfl rfl hl.1 rfl (lv_room (Nat.le_of_ble_eq_true rfl)) d_Mo_keyTaken_16 ⟨Nat.zero_le _, Nat.zero_le _⟩) hI (st1 := [.int r_5]) rfl (fun H locs hI => ?_)
        refine lv_if_eq (tgt := 34) hx hb d_Mo_keyTaken_19 (by decide) (fun c_6 => ?_) (fun c_6 => ?_)
        · replace hf := (if_pos c_6).symm.trans hf
          refine lv_iinc (v := v2 + 1) (lv' := [(2, .int (v2 + 1)), (0, .ref (adr 722)), (1, .int u1)]) hx hb d_Mo_keyTaken_34 hl (k := 0) rfl rfl (by decide) rfl (fun ls hl => ?_)
          refine lv_goto (tgt := 2) hx hb d_Mo_keyTaken_37 (by decide) ?_
          exact ih (v2 + 1) σ_3 H locs ls hf hI (lv_sub hl [0, 1, 2] rfl)
        · replace hf := (if_neg c_6).symm.trans hf
          refine lv_aload_n hx hb d_Mo_keyTaken_22 rfl (lv_at hl 1 rfl) ?_
          refine lv_iload_n hx hb d_Mo_keyTaken_23 rfl (lv_at hl 0 rfl) ?_
          refine lv_iconst (v := 5) hx hb d_Mo_keyTaken_24 (by decide) ?_
          obtain ⟨r_9, σ_7, hc_8, hf⟩ := gx_bde hf
          refine gx_go (va_runV (As := [.int v2, .int ((5 : Int32))]) (rest := []) G.1 (ct_Mo_of l D dA adr A hA N v2 ((5 : Int32)) σ_3 r_9 σ_7 hc_8) (cwV 2 ht gi_Mo_65 rfl rfl rfl (by decide +kernel) ⟨Nat.le_of_ble_eq_true rfl, Nat.le_of_ble_eq_true rfl⟩) (gx_preV G hI cl_Mo (by decide)) rfl rfl hl.1 rfl (lv_room (Nat.le_of_ble_eq_true rfl)) d_Mo_keyTaken_25 ⟨Nat.zero_le _, Nat.zero_le _⟩) hI (st1 := [.int r_9]) rfl (fun H locs hI => ?_)
          refine lv_iload_n hx hb d_Mo_keyTaken_28 rfl (lv_at hl 2 rfl) ?_
          refine lv_icmp_ne (tgt := 34) hx hb d_Mo_keyTaken_29 (by decide) (fun c_10 => ?_) (fun c_10 => ?_)
          · replace hf := (if_neg c_10).symm.trans hf
            refine lv_iinc (v := v2 + 1) (lv' := [(2, .int (v2 + 1)), (0, .ref (adr 722)), (1, .int u1)]) hx hb d_Mo_keyTaken_34 hl (k := 0) rfl rfl (by decide) rfl (fun ls hl => ?_)
            refine lv_goto (tgt := 2) hx hb d_Mo_keyTaken_37 (by decide) ?_
            exact ih (v2 + 1) σ_7 H locs ls hf hI (lv_sub hl [0, 1, 2] rfl)
          · replace hf := (if_pos c_10).symm.trans hf
            refine lv_iconst (v := 1) hx hb d_Mo_keyTaken_32 (by decide) ?_
            cases hf
            exact W.zret (v := (1 : Int32)) hx hb hr (by decide) (gx_F hI) hI.2.2.2 d_Mo_keyTaken_33
set_option maxHeartbeats 4000000 in
set_option maxRecDepth 100000 in
theorem ct_Mo_keyTaken (l : Launch) (D : va_G) (dA : Nat → ClassId) (adr : Nat → Nat) (A : Nat → Prop) (hA : gx_A A adr) (N : Nat) (p0 : Int32) (σ : gx_M) (r : Int32) (σ' : gx_M) (hf : fn_Mo_keyTaken N p0 σ = some (r, σ')) : Met l y_Mo_keyTaken w_Mo_keyTaken rm_Mo_keyTaken (gx_Pc D dA adr σ [.ref (adr 722), .int p0]) (gx_Q D dA adr A (some (.int r)) σ') 0 0 A := by
  refine Met.ofW (cc := b_Mo_keyTaken) (maxL := 3) (ret := some .boolean) (by decide) rfl ?_
  intro p e s m args below meth c s₁ B hml hv
  obtain ⟨rfl, hP, hK⟩ := hv
  have hx := B.exec
  have hb := B.bytes
  have hr := B.returns
  have hlocks := B.notSynchronized
  have ht : ∀ w ∈ gx_tb, w.before _ s = true := fun w h => atoms_spec (ws := w_Mo_keyTaken) B.pre w (List.mem_cons_of_mem _ h)
  have hown : s.vm.findClass R_Mo = some m.cls := findClass_of_methodNamed B.named
  have G : gx_G p m c b_Mo_keyTaken 3 s _ gx_tb R_Mo D dA := ⟨⟨hx, hb, hml, hown, ht⟩, hK⟩
  have hI : gx_I D dA adr A s.heap σ s.heap [] := ⟨hP, va_S.rf⟩
  have hl := lv_entry ([.ref (adr 722), .int p0]) (n := 3) (Nat.le_of_ble_eq_true rfl)
  rw [lg_entry_eq]
  generalize (lg_sl ([.ref (adr 722), .int p0]) ++ List.replicate (3 - (lg_sl ([.ref (adr 722), .int p0])).length) Slot.unset).toArray = ls at hl ⊢
  have hl : lv_has ls 3 [(0, .ref (adr 722)), (1, .int p0)] := hl
  rw [fn_Mo_keyTaken] at hf
  refine lv_iconst (v := 0) hx hb d_Mo_keyTaken_0 (by decide) ?_
  refine lv_istore_n (i := 2) (lv' := [(2, .int ((0 : Int32))), (0, .ref (adr 722)), (1, .int p0)]) hx hb d_Mo_keyTaken_1 rfl hl (by decide) rfl (fun ls hl => ?_)
  exact wl_Mo_keyTaken_L2 G hr hlocks hA N _ p0 N ((0 : Int32)) σ _ _ ls hf hI (lv_sub hl [0, 1, 2] rfl)
def fn_Mo_make_L19 (N : Nat) (u6 : Int32) (u1 : Int32) (u2 : Int32) (u3 : Int32) (u4 : Int32) (u5 : Int32) : Nat → Int32 → gx_M → Option (Int32 × gx_M)
  | 0, _, _ => none
  | n + 1, v7, σ => if ((13 : Int32)) ≤ v7 then (gx_bv (fn_Mo_set N u6 ((0 : Int32)) u1 σ) (fun σ_3 => gx_bv (fn_Mo_set N u6 ((1 : Int32)) u2 σ_3) (fun σ_5 => gx_bv (fn_Mo_set N u6 ((2 : Int32)) u3 σ_5) (fun σ_7 => gx_bv (fn_Mo_set N u6 ((3 : Int32)) u4 σ_7) (fun σ_9 => gx_bv (fn_Mo_set N u6 ((5 : Int32)) u5 σ_9) (fun σ_11 => gx_bv (fn_Mo_set N u6 ((6 : Int32)) ((-1 : Int32)) σ_11) (fun σ_13 => gx_bv (fn_Mo_set N u6 ((11 : Int32)) ((-1 : Int32)) σ_13) (fun σ_15 => some (u6, σ_15))))))))) else (gx_bv (fn_Mo_set N u6 v7 ((0 : Int32)) σ) (fun σ_17 => fn_Mo_make_L19 N u6 u1 u2 u3 u4 u5 n (v7 + 1) σ_17))
def fn_Mo_make (N : Nat) (p0 : Int32) (p1 : Int32) (p2 : Int32) (p3 : Int32) (p4 : Int32) (σ : gx_M) : Option (Int32 × gx_M) := gx_lt (gx_up σ 722 9 ((σ 722 9) + ((1 : Int32)))) (fun σ_1 => fn_Mo_make_L19 N (σ 722 9) p0 p1 p2 p3 p4 N ((0 : Int32)) σ_1)
set_option maxHeartbeats 4000000 in
set_option maxRecDepth 100000 in
theorem wl_Mo_make_L19 {p : Program} {l : Launch} {e : Env} {s : State} {m : MethodId} {args : Array Value} {below : List Frame} {meth : Method} {c : Code} {D : va_G} {dA : Nat → ClassId} {adr : Nat → Nat} {A : Nat → Prop} (G : gx_G p m c b_Mo_make 8 s args gx_tb R_Mo D dA) (hr : meth.sig.returnType = some .int) (hlocks : meth.locks = false) (hA : gx_A A adr) (N : Nat) (res : Int32 × gx_M) (u6 : Int32) (u1 : Int32) (u2 : Int32) (u3 : Int32) (u4 : Int32) (u5 : Int32) : ∀ (n : Nat) (v7 : Int32) (σ : gx_M) (H : Heap) (locs : List Loc) (ls : Array Slot), fn_Mo_make_L19 N u6 u1 u2 u3 u4 u5 n v7 σ = some res → gx_I D dA adr A s.heap σ H locs → lv_has ls 8 [(7, .int v7), (6, .int u6), (0, .ref (adr 722)), (1, .int u1), (2, .int u2), (3, .int u3), (4, .int u4), (5, .int u5)] → W p l e (headSpec w_Mo_make rm_Mo_make).room s m args below meth c H locs 0 0 (MQ below (gx_Q D dA adr A (some (.int res.1)) res.2) args s 0 0 A) (F0 m 19 ls []) := by
  obtain ⟨⟨hx, hb, hml, hown, ht⟩, hK⟩ := id G
  intro n
  induction n with
  | zero =>
    intro v7 σ H locs ls hf
    cases hf
  | succ n ih =>
    intro v7 σ H locs ls hf hI hl
    rw [fn_Mo_make_L19] at hf
    refine lv_iload hx hb d_Mo_make_19 (lv_at hl 0 rfl) ?_
    refine lv_bipush (v := 13) hx hb d_Mo_make_21 (by decide) ?_
    refine lv_icmp_ge (tgt := 41) hx hb d_Mo_make_23 (by decide) (fun c_2 => ?_) (fun c_2 => ?_)
    · replace hf := (if_pos c_2).symm.trans hf
      refine lv_aload_n hx hb d_Mo_make_41 rfl (lv_at hl 2 rfl) ?_
      refine lv_iload hx hb d_Mo_make_42 (lv_at hl 1 rfl) ?_
      refine lv_iconst (v := 0) hx hb d_Mo_make_44 (by decide) ?_
      refine lv_iload_n hx hb d_Mo_make_45 rfl (lv_at hl 3 rfl) ?_
      obtain ⟨σ_3, hc_4, hf⟩ := gx_bve hf
      refine gx_go (va_runV (As := [.int u6, .int ((0 : Int32)), .int u1]) (rest := []) G.1 (ct_Mo_set l D dA adr A hA N u6 ((0 : Int32)) u1 σ σ_3 hc_4) (cwV 3 ht gi_Mo_69 rfl rfl rfl (by decide +kernel) ⟨Nat.le_of_ble_eq_true rfl, Nat.le_of_ble_eq_true rfl⟩) (gx_preV G hI cl_Mo (by decide)) rfl rfl hl.1 rfl (lv_room (Nat.le_of_ble_eq_true rfl)) d_Mo_make_46 ⟨Nat.zero_le _, Nat.zero_le _⟩) hI (st1 := []) rfl (fun H locs hI => ?_)
      refine lv_aload_n hx hb d_Mo_make_49 rfl (lv_at hl 2 rfl) ?_
      refine lv_iload hx hb d_Mo_make_50 (lv_at hl 1 rfl) ?_
      refine lv_iconst (v := 1) hx hb d_Mo_make_52 (by decide) ?_
      refine lv_iload_n hx hb d_Mo_make_53 rfl (lv_at hl 4 rfl) ?_
      obtain ⟨σ_5, hc_6, hf⟩ := gx_bve hf
      refine gx_go (va_runV (As := [.int u6, .int ((1 : Int32)), .int u2]) (rest := []) G.1 (ct_Mo_set l D dA adr A hA N u6 ((1 : Int32)) u2 σ_3 σ_5 hc_6) (cwV 3 ht gi_Mo_69 rfl rfl rfl (by decide +kernel) ⟨Nat.le_of_ble_eq_true rfl, Nat.le_of_ble_eq_true rfl⟩) (gx_preV G hI cl_Mo (by decide)) rfl rfl hl.1 rfl (lv_room (Nat.le_of_ble_eq_true rfl)) d_Mo_make_54 ⟨Nat.zero_le _, Nat.zero_le _⟩) hI (st1 := []) rfl (fun H locs hI => ?_)
      refine lv_aload_n hx hb d_Mo_make_57 rfl (lv_at hl 2 rfl) ?_
      refine lv_iload hx hb d_Mo_make_58 (lv_at hl 1 rfl) ?_
      refine lv_iconst (v := 2) hx hb d_Mo_make_60 (by decide) ?_
      refine lv_iload_n hx hb d_Mo_make_61 rfl (lv_at hl 5 rfl) ?_
      obtain ⟨σ_7, hc_8, hf⟩ := gx_bve hf
      refine gx_go (va_runV (As := [.int u6, .int ((2 : Int32)), .int u3]) (rest := []) G.1 (ct_Mo_set l D dA adr A hA N u6 ((2 : Int32)) u3 σ_5 σ_7 hc_8) (cwV 3 ht gi_Mo_69 rfl rfl rfl (by decide +kernel) ⟨Nat.le_of_ble_eq_true rfl, Nat.le_of_ble_eq_true rfl⟩) (gx_preV G hI cl_Mo (by decide)) rfl rfl hl.1 rfl (lv_room (Nat.le_of_ble_eq_true rfl)) d_Mo_make_62 ⟨Nat.zero_le _, Nat.zero_le _⟩) hI (st1 := []) rfl (fun H locs hI => ?_)
      refine lv_aload_n hx hb d_Mo_make_65 rfl (lv_at hl 2 rfl) ?_
      refine lv_iload hx hb d_Mo_make_66 (lv_at hl 1 rfl) ?_
      refine lv_iconst (v := 3) hx hb d_Mo_make_68 (by decide) ?_
      refine lv_iload hx hb d_Mo_make_69 (lv_at hl 6 rfl) ?_
      obtain ⟨σ_9, hc_10, hf⟩ := gx_bve hf
      refine gx_go (va_runV (As := [.int u6, .int ((3 : Int32)), .int u4]) (rest := []) G.1 (ct_Mo_set l D dA adr A hA N u6 ((3 : Int32)) u4 σ_7 σ_9 hc_10) (cwV 3 ht gi_Mo_69 rfl rfl rfl (by decide +kernel) ⟨Nat.le_of_ble_eq_true rfl, Nat.le_of_ble_eq_true rfl⟩) (gx_preV G hI cl_Mo (by decide)) rfl rfl hl.1 rfl (lv_room (Nat.le_of_ble_eq_true rfl)) d_Mo_make_71 ⟨Nat.zero_le _, Nat.zero_le _⟩) hI (st1 := []) rfl (fun H locs hI => ?_)
      refine lv_aload_n hx hb d_Mo_make_74 rfl (lv_at hl 2 rfl) ?_
      refine lv_iload hx hb d_Mo_make_75 (lv_at hl 1 rfl) ?_
      refine lv_iconst (v := 5) hx hb d_Mo_make_77 (by decide) ?_
      refine lv_iload hx hb d_Mo_make_78 (lv_at hl 7 rfl) ?_
      obtain ⟨σ_11, hc_12, hf⟩ := gx_bve hf
      refine gx_go (va_runV (As := [.int u6, .int ((5 : Int32)), .int u5]) (rest := []) G.1 (ct_Mo_set l D dA adr A hA N u6 ((5 : Int32)) u5 σ_9 σ_11 hc_12) (cwV 3 ht gi_Mo_69 rfl rfl rfl (by decide +kernel) ⟨Nat.le_of_ble_eq_true rfl, Nat.le_of_ble_eq_true rfl⟩) (gx_preV G hI cl_Mo (by decide)) rfl rfl hl.1 rfl (lv_room (Nat.le_of_ble_eq_true rfl)) d_Mo_make_80 ⟨Nat.zero_le _, Nat.zero_le _⟩) hI (st1 := []) rfl (fun H locs hI => ?_)
      refine lv_aload_n hx hb d_Mo_make_83 rfl (lv_at hl 2 rfl) ?_
      refine lv_iload hx hb d_Mo_make_84 (lv_at hl 1 rfl) ?_
      refine lv_bipush (v := 6) hx hb d_Mo_make_86 (by decide) ?_
      refine lv_iconst (v := (-1)) hx hb d_Mo_make_88 (by decide) ?_
      obtain ⟨σ_13, hc_14, hf⟩ := gx_bve hf
      refine gx_go (va_runV (As := [.int u6, .int ((6 : Int32)), .int ((-1 : Int32))]) (rest := []) G.1 (ct_Mo_set l D dA adr A hA N u6 ((6 : Int32)) ((-1 : Int32)) σ_11 σ_13 hc_14) (cwV 3 ht gi_Mo_69 rfl rfl rfl (by decide +kernel) ⟨Nat.le_of_ble_eq_true rfl, Nat.le_of_ble_eq_true rfl⟩) (gx_preV G hI cl_Mo (by decide)) rfl rfl hl.1 rfl (lv_room (Nat.le_of_ble_eq_true rfl)) d_Mo_make_89 ⟨Nat.zero_le _, Nat.zero_le _⟩) hI (st1 := []) rfl (fun H locs hI => ?_)
      refine lv_aload_n hx hb d_Mo_make_92 rfl (lv_at hl 2 rfl) ?_
      refine lv_iload hx hb d_Mo_make_93 (lv_at hl 1 rfl) ?_
      refine lv_bipush (v := 11) hx hb d_Mo_make_95 (by decide) ?_
      refine lv_iconst (v := (-1)) hx hb d_Mo_make_97 (by decide) ?_
      obtain ⟨σ_15, hc_16, hf⟩ := gx_bve hf
      refine gx_go (va_runV (As := [.int u6, .int ((11 : Int32)), .int ((-1 : Int32))]) (rest := []) G.1 (ct_Mo_set l D dA adr A hA N u6 ((11 : Int32)) ((-1 : Int32)) σ_13 σ_15 hc_16) (cwV 3 ht gi_Mo_69 rfl rfl rfl (by decide +kernel) ⟨Nat.le_of_ble_eq_true rfl, Nat.le_of_ble_eq_true rfl⟩) (gx_preV G hI cl_Mo (by decide)) rfl rfl hl.1 rfl (lv_room (Nat.le_of_ble_eq_true rfl)) d_Mo_make_98 ⟨Nat.zero_le _, Nat.zero_le _⟩) hI (st1 := []) rfl (fun H locs hI => ?_)
      refine lv_iload hx hb d_Mo_make_101 (lv_at hl 1 rfl) ?_
      cases hf
      exact W.iret hx hb hr (gx_F hI) hI.2.2.2 d_Mo_make_103
    · replace hf := (if_neg c_2).symm.trans hf
      refine lv_aload_n hx hb d_Mo_make_26 rfl (lv_at hl 2 rfl) ?_
      refine lv_iload hx hb d_Mo_make_27 (lv_at hl 1 rfl) ?_
      refine lv_iload hx hb d_Mo_make_29 (lv_at hl 0 rfl) ?_
      refine lv_iconst (v := 0) hx hb d_Mo_make_31 (by decide) ?_
      obtain ⟨σ_17, hc_18, hf⟩ := gx_bve hf
      refine gx_go (va_runV (As := [.int u6, .int v7, .int ((0 : Int32))]) (rest := []) G.1 (ct_Mo_set l D dA adr A hA N u6 v7 ((0 : Int32)) σ σ_17 hc_18) (cwV 3 ht gi_Mo_69 rfl rfl rfl (by decide +kernel) ⟨Nat.le_of_ble_eq_true rfl, Nat.le_of_ble_eq_true rfl⟩) (gx_preV G hI cl_Mo (by decide)) rfl rfl hl.1 rfl (lv_room (Nat.le_of_ble_eq_true rfl)) d_Mo_make_32 ⟨Nat.zero_le _, Nat.zero_le _⟩) hI (st1 := []) rfl (fun H locs hI => ?_)
      refine lv_iinc (v := v7 + 1) (lv' := [(7, .int (v7 + 1)), (6, .int u6), (0, .ref (adr 722)), (1, .int u1), (2, .int u2), (3, .int u3), (4, .int u4), (5, .int u5)]) hx hb d_Mo_make_35 hl (k := 0) rfl rfl (by decide) rfl (fun ls hl => ?_)
      refine lv_goto (tgt := 19) hx hb d_Mo_make_38 (by decide) ?_
      exact ih (v7 + 1) σ_17 H locs ls hf hI (lv_sub hl [0, 1, 2, 3, 4, 5, 6, 7] rfl)
set_option maxHeartbeats 4000000 in
set_option maxRecDepth 100000 in
theorem ct_Mo_make (l : Launch) (D : va_G) (dA : Nat → ClassId) (adr : Nat → Nat) (A : Nat → Prop) (hA : gx_A A adr) (N : Nat) (p0 : Int32) (p1 : Int32) (p2 : Int32) (p3 : Int32) (p4 : Int32) (σ : gx_M) (r : Int32) (σ' : gx_M) (hf : fn_Mo_make N p0 p1 p2 p3 p4 σ = some (r, σ')) : Met l y_Mo_make w_Mo_make rm_Mo_make (gx_Pc D dA adr σ [.ref (adr 722), .int p0, .int p1, .int p2, .int p3, .int p4]) (gx_Q D dA adr A (some (.int r)) σ') 0 0 A := by
  refine Met.ofW (cc := b_Mo_make) (maxL := 8) (ret := some .int) (by decide) rfl ?_
  intro p e s m args below meth c s₁ B hml hv
  obtain ⟨rfl, hP, hK⟩ := hv
  have hx := B.exec
  have hb := B.bytes
  have hr := B.returns
  have hlocks := B.notSynchronized
  have ht : ∀ w ∈ gx_tb, w.before _ s = true := fun w h => atoms_spec (ws := w_Mo_make) B.pre w (List.mem_cons_of_mem _ h)
  have hown : s.vm.findClass R_Mo = some m.cls := findClass_of_methodNamed B.named
  have G : gx_G p m c b_Mo_make 8 s _ gx_tb R_Mo D dA := ⟨⟨hx, hb, hml, hown, ht⟩, hK⟩
  have hI : gx_I D dA adr A s.heap σ s.heap [] := ⟨hP, va_S.rf⟩
  have hl := lv_entry ([.ref (adr 722), .int p0, .int p1, .int p2, .int p3, .int p4]) (n := 8) (Nat.le_of_ble_eq_true rfl)
  rw [lg_entry_eq]
  generalize (lg_sl ([.ref (adr 722), .int p0, .int p1, .int p2, .int p3, .int p4]) ++ List.replicate (8 - (lg_sl ([.ref (adr 722), .int p0, .int p1, .int p2, .int p3, .int p4])).length) Slot.unset).toArray = ls at hl ⊢
  have hl : lv_has ls 8 [(0, .ref (adr 722)), (1, .int p0), (2, .int p1), (3, .int p2), (4, .int p3), (5, .int p4)] := hl
  rw [fn_Mo_make] at hf
  refine lv_aload_n hx hb d_Mo_make_0 rfl (lv_at hl 0 rfl) ?_
  refine gx_getI G hI cl_Mo (by decide) 9 (by decide) (by decide) fl_Mo_35 d_Mo_make_1 ?_
  refine lv_istore (i := 6) (lv' := [(6, .int (σ 722 9)), (0, .ref (adr 722)), (1, .int p0), (2, .int p1), (3, .int p2), (4, .int p3), (5, .int p4)]) hx hb d_Mo_make_4 hl (by decide) rfl (fun ls hl => ?_)
  refine lv_aload_n hx hb d_Mo_make_6 rfl (lv_at hl 1 rfl) ?_
  refine lv_dup hx hb d_Mo_make_7 rfl ?_
  refine gx_getI G hI cl_Mo (by decide) 9 (by decide) (by decide) fl_Mo_35 d_Mo_make_8 ?_
  refine lv_iconst (v := 1) hx hb d_Mo_make_11 (by decide) ?_
  refine lv_iadd hx hb d_Mo_make_12 ?_
  obtain ⟨σ_1, eσ_1, hf⟩ := gx_lte hf
  refine gx_put G hI hA cl_Mo (by decide) 9 (by decide) (by decide) fl_Mo_35 rfl rfl rfl eσ_1 d_Mo_make_13 (fun H locs hI => ?_)
  refine lv_iconst (v := 0) hx hb d_Mo_make_16 (by decide) ?_
  refine lv_istore (i := 7) (lv' := [(7, .int ((0 : Int32))), (6, .int (σ 722 9)), (0, .ref (adr 722)), (1, .int p0), (2, .int p1), (3, .int p2), (4, .int p3), (5, .int p4)]) hx hb d_Mo_make_17 hl (by decide) rfl (fun ls hl => ?_)
  exact wl_Mo_make_L19 G hr hlocks hA N _ (σ 722 9) p0 p1 p2 p3 p4 N ((0 : Int32)) σ_1 _ _ ls hf hI (lv_sub hl [0, 1, 2, 3, 4, 5, 6, 7] rfl)
