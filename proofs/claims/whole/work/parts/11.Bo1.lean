theorem d_Bo_within_0 : decode b_Bo_within 0 = .ok (.iload_n 0, 1) := by decide +kernel
theorem d_Bo_within_1 : decode b_Bo_within 1 = .ok (.iload_n 1, 1) := by decide +kernel
theorem d_Bo_within_2 : decode b_Bo_within 2 = .ok (.if_icmp .lt 12, 3) := by decide +kernel
theorem d_Bo_within_5 : decode b_Bo_within 5 = .ok (.iload_n 0, 1) := by decide +kernel
theorem d_Bo_within_6 : decode b_Bo_within 6 = .ok (.iload_n 2, 1) := by decide +kernel
theorem d_Bo_within_7 : decode b_Bo_within 7 = .ok (.if_icmp .gt 7, 3) := by decide +kernel
theorem d_Bo_within_10 : decode b_Bo_within 10 = .ok (.iconst 1, 1) := by decide +kernel
theorem d_Bo_within_11 : decode b_Bo_within 11 = .ok (.goto 4, 3) := by decide +kernel
theorem d_Bo_within_14 : decode b_Bo_within 14 = .ok (.iconst 0, 1) := by decide +kernel
theorem d_Bo_within_15 : decode b_Bo_within 15 = .ok (.ireturn, 1) := by decide +kernel
theorem d_Bo_isQueue_0 : decode b_Bo_isQueue 0 = .ok (.iload_n 0, 1) := by decide +kernel
theorem d_Bo_isQueue_1 : decode b_Bo_isQueue 1 = .ok (.iconst 0, 1) := by decide +kernel
theorem d_Bo_isQueue_2 : decode b_Bo_isQueue 2 = .ok (.iconst 3, 1) := by decide +kernel
theorem d_Bo_isQueue_3 : decode b_Bo_isQueue 3 = .ok (.invokestatic 45, 3) := by decide +kernel
theorem d_Bo_isQueue_6 : decode b_Bo_isQueue 6 = .ok (.ireturn, 1) := by decide +kernel
theorem d_Bo_isWorker_0 : decode b_Bo_isWorker 0 = .ok (.iload_n 0, 1) := by decide +kernel
theorem d_Bo_isWorker_1 : decode b_Bo_isWorker 1 = .ok (.iconst 0, 1) := by decide +kernel
theorem d_Bo_isWorker_2 : decode b_Bo_isWorker 2 = .ok (.iconst 5, 1) := by decide +kernel
theorem d_Bo_isWorker_3 : decode b_Bo_isWorker 3 = .ok (.invokestatic 45, 3) := by decide +kernel
theorem d_Bo_isWorker_6 : decode b_Bo_isWorker 6 = .ok (.ireturn, 1) := by decide +kernel
theorem d_Bo_numberOrNone_0 : decode b_Bo_numberOrNone 0 = .ok (.aload_n 0, 1) := by decide +kernel
theorem d_Bo_numberOrNone_1 : decode b_Bo_numberOrNone 1 = .ok (.ifnonnull 8, 3) := by decide +kernel
theorem d_Bo_numberOrNone_4 : decode b_Bo_numberOrNone 4 = .ok (.bipush (-4), 2) := by decide +kernel
theorem d_Bo_numberOrNone_6 : decode b_Bo_numberOrNone 6 = .ok (.goto 7, 3) := by decide +kernel
theorem d_Bo_numberOrNone_9 : decode b_Bo_numberOrNone 9 = .ok (.aload_n 0, 1) := by decide +kernel
theorem d_Bo_numberOrNone_10 : decode b_Bo_numberOrNone 10 = .ok (.getfield 83, 3) := by decide +kernel
theorem d_Bo_numberOrNone_13 : decode b_Bo_numberOrNone 13 = .ok (.ireturn, 1) := by decide +kernel
theorem d_Bo_isOpen_0 : decode b_Bo_isOpen 0 = .ok (.aload_n 0, 1) := by decide +kernel
theorem d_Bo_isOpen_1 : decode b_Bo_isOpen 1 = .ok (.getfield 15, 3) := by decide +kernel
theorem d_Bo_isOpen_4 : decode b_Bo_isOpen 4 = .ok (.iload_n 1, 1) := by decide +kernel
theorem d_Bo_isOpen_5 : decode b_Bo_isOpen 5 = .ok (.aaload, 1) := by decide +kernel
theorem d_Bo_isOpen_6 : decode b_Bo_isOpen 6 = .ok (.invokevirtual 188, 3) := by decide +kernel
theorem d_Bo_isOpen_9 : decode b_Bo_isOpen 9 = .ok (.ifCond .eq 19, 3) := by decide +kernel
theorem d_Bo_isOpen_12 : decode b_Bo_isOpen 12 = .ok (.aload_n 0, 1) := by decide +kernel
theorem d_Bo_isOpen_13 : decode b_Bo_isOpen 13 = .ok (.getfield 23, 3) := by decide +kernel
theorem d_Bo_isOpen_16 : decode b_Bo_isOpen 16 = .ok (.iload_n 1, 1) := by decide +kernel
theorem d_Bo_isOpen_17 : decode b_Bo_isOpen 17 = .ok (.aconst_null, 1) := by decide +kernel
theorem d_Bo_isOpen_18 : decode b_Bo_isOpen 18 = .ok (.invokevirtual 123, 3) := by decide +kernel
theorem d_Bo_isOpen_21 : decode b_Bo_isOpen 21 = .ok (.ifnull 7, 3) := by decide +kernel
theorem d_Bo_isOpen_24 : decode b_Bo_isOpen 24 = .ok (.iconst 1, 1) := by decide +kernel
theorem d_Bo_isOpen_25 : decode b_Bo_isOpen 25 = .ok (.goto 4, 3) := by decide +kernel
theorem d_Bo_isOpen_28 : decode b_Bo_isOpen 28 = .ok (.iconst 0, 1) := by decide +kernel
theorem d_Bo_isOpen_29 : decode b_Bo_isOpen 29 = .ok (.ireturn, 1) := by decide +kernel
theorem d_Bo_firstOpenQueue_0 : decode b_Bo_firstOpenQueue 0 = .ok (.iconst 0, 1) := by decide +kernel
theorem d_Bo_firstOpenQueue_1 : decode b_Bo_firstOpenQueue 1 = .ok (.istore_n 1, 1) := by decide +kernel
theorem d_Bo_firstOpenQueue_2 : decode b_Bo_firstOpenQueue 2 = .ok (.iload_n 1, 1) := by decide +kernel
theorem d_Bo_firstOpenQueue_3 : decode b_Bo_firstOpenQueue 3 = .ok (.iconst 4, 1) := by decide +kernel
theorem d_Bo_firstOpenQueue_4 : decode b_Bo_firstOpenQueue 4 = .ok (.if_icmp .ge 19, 3) := by decide +kernel
theorem d_Bo_firstOpenQueue_7 : decode b_Bo_firstOpenQueue 7 = .ok (.aload_n 0, 1) := by decide +kernel
theorem d_Bo_firstOpenQueue_8 : decode b_Bo_firstOpenQueue 8 = .ok (.iload_n 1, 1) := by decide +kernel
theorem d_Bo_firstOpenQueue_9 : decode b_Bo_firstOpenQueue 9 = .ok (.invokevirtual 191, 3) := by decide +kernel
theorem d_Bo_firstOpenQueue_12 : decode b_Bo_firstOpenQueue 12 = .ok (.ifCond .eq 5, 3) := by decide +kernel
theorem d_Bo_firstOpenQueue_15 : decode b_Bo_firstOpenQueue 15 = .ok (.iload_n 1, 1) := by decide +kernel
theorem d_Bo_firstOpenQueue_16 : decode b_Bo_firstOpenQueue 16 = .ok (.ireturn, 1) := by decide +kernel
theorem d_Bo_firstOpenQueue_17 : decode b_Bo_firstOpenQueue 17 = .ok (.iinc 1 1, 3) := by decide +kernel
theorem d_Bo_firstOpenQueue_20 : decode b_Bo_firstOpenQueue 20 = .ok (.goto (-18), 3) := by decide +kernel
theorem d_Bo_firstOpenQueue_23 : decode b_Bo_firstOpenQueue 23 = .ok (.bipush (-4), 2) := by decide +kernel
theorem d_Bo_firstOpenQueue_25 : decode b_Bo_firstOpenQueue 25 = .ok (.ireturn, 1) := by decide +kernel
theorem d_Bo_openQueueByCredit_0 : decode b_Bo_openQueueByCredit 0 = .ok (.bipush (-4), 2) := by decide +kernel
theorem d_Bo_openQueueByCredit_2 : decode b_Bo_openQueueByCredit 2 = .ok (.istore_n 1, 1) := by decide +kernel
theorem d_Bo_openQueueByCredit_3 : decode b_Bo_openQueueByCredit 3 = .ok (.iconst 0, 1) := by decide +kernel
theorem d_Bo_openQueueByCredit_4 : decode b_Bo_openQueueByCredit 4 = .ok (.istore_n 2, 1) := by decide +kernel
theorem d_Bo_openQueueByCredit_5 : decode b_Bo_openQueueByCredit 5 = .ok (.iconst 0, 1) := by decide +kernel
theorem d_Bo_openQueueByCredit_6 : decode b_Bo_openQueueByCredit 6 = .ok (.istore_n 3, 1) := by decide +kernel
theorem d_Bo_openQueueByCredit_7 : decode b_Bo_openQueueByCredit 7 = .ok (.iload_n 3, 1) := by decide +kernel
theorem d_Bo_openQueueByCredit_8 : decode b_Bo_openQueueByCredit 8 = .ok (.iconst 4, 1) := by decide +kernel
theorem d_Bo_openQueueByCredit_9 : decode b_Bo_openQueueByCredit 9 = .ok (.if_icmp .ge 81, 3) := by decide +kernel
theorem d_Bo_openQueueByCredit_12 : decode b_Bo_openQueueByCredit 12 = .ok (.aload_n 0, 1) := by decide +kernel
theorem d_Bo_openQueueByCredit_13 : decode b_Bo_openQueueByCredit 13 = .ok (.iload_n 3, 1) := by decide +kernel
theorem d_Bo_openQueueByCredit_14 : decode b_Bo_openQueueByCredit 14 = .ok (.invokevirtual 191, 3) := by decide +kernel
theorem d_Bo_openQueueByCredit_17 : decode b_Bo_openQueueByCredit 17 = .ok (.ifCond .eq 67, 3) := by decide +kernel
theorem d_Bo_openQueueByCredit_20 : decode b_Bo_openQueueByCredit 20 = .ok (.aload_n 0, 1) := by decide +kernel
theorem d_Bo_openQueueByCredit_21 : decode b_Bo_openQueueByCredit 21 = .ok (.getfield 15, 3) := by decide +kernel
theorem d_Bo_openQueueByCredit_24 : decode b_Bo_openQueueByCredit 24 = .ok (.iload_n 3, 1) := by decide +kernel
theorem d_Bo_openQueueByCredit_25 : decode b_Bo_openQueueByCredit 25 = .ok (.aaload, 1) := by decide +kernel
theorem d_Bo_openQueueByCredit_26 : decode b_Bo_openQueueByCredit 26 = .ok (.dup, 1) := by decide +kernel
theorem d_Bo_openQueueByCredit_27 : decode b_Bo_openQueueByCredit 27 = .ok (.getfield 194, 3) := by decide +kernel
theorem d_Bo_openQueueByCredit_30 : decode b_Bo_openQueueByCredit 30 = .ok (.aload_n 0, 1) := by decide +kernel
theorem d_Bo_openQueueByCredit_31 : decode b_Bo_openQueueByCredit 31 = .ok (.getfield 15, 3) := by decide +kernel
theorem d_Bo_openQueueByCredit_34 : decode b_Bo_openQueueByCredit 34 = .ok (.iload_n 3, 1) := by decide +kernel
theorem d_Bo_openQueueByCredit_35 : decode b_Bo_openQueueByCredit 35 = .ok (.aaload, 1) := by decide +kernel
theorem d_Bo_openQueueByCredit_36 : decode b_Bo_openQueueByCredit 36 = .ok (.getfield 197, 3) := by decide +kernel
theorem d_Bo_openQueueByCredit_39 : decode b_Bo_openQueueByCredit 39 = .ok (.iadd, 1) := by decide +kernel
theorem d_Bo_openQueueByCredit_40 : decode b_Bo_openQueueByCredit 40 = .ok (.putfield 194, 3) := by decide +kernel
theorem d_Bo_openQueueByCredit_43 : decode b_Bo_openQueueByCredit 43 = .ok (.iload_n 2, 1) := by decide +kernel
theorem d_Bo_openQueueByCredit_44 : decode b_Bo_openQueueByCredit 44 = .ok (.aload_n 0, 1) := by decide +kernel
theorem d_Bo_openQueueByCredit_45 : decode b_Bo_openQueueByCredit 45 = .ok (.getfield 15, 3) := by decide +kernel
theorem d_Bo_openQueueByCredit_48 : decode b_Bo_openQueueByCredit 48 = .ok (.iload_n 3, 1) := by decide +kernel
theorem d_Bo_openQueueByCredit_49 : decode b_Bo_openQueueByCredit 49 = .ok (.aaload, 1) := by decide +kernel
theorem d_Bo_openQueueByCredit_50 : decode b_Bo_openQueueByCredit 50 = .ok (.getfield 197, 3) := by decide +kernel
theorem d_Bo_openQueueByCredit_53 : decode b_Bo_openQueueByCredit 53 = .ok (.iadd, 1) := by decide +kernel
theorem d_Bo_openQueueByCredit_54 : decode b_Bo_openQueueByCredit 54 = .ok (.istore_n 2, 1) := by decide +kernel
theorem d_Bo_openQueueByCredit_55 : decode b_Bo_openQueueByCredit 55 = .ok (.iload_n 1, 1) := by decide +kernel
theorem d_Bo_openQueueByCredit_56 : decode b_Bo_openQueueByCredit 56 = .ok (.bipush (-4), 2) := by decide +kernel
theorem d_Bo_openQueueByCredit_58 : decode b_Bo_openQueueByCredit 58 = .ok (.if_icmp .eq 24, 3) := by decide +kernel
theorem d_Bo_openQueueByCredit_61 : decode b_Bo_openQueueByCredit 61 = .ok (.aload_n 0, 1) := by decide +kernel
theorem d_Bo_openQueueByCredit_62 : decode b_Bo_openQueueByCredit 62 = .ok (.getfield 15, 3) := by decide +kernel
theorem d_Bo_openQueueByCredit_65 : decode b_Bo_openQueueByCredit 65 = .ok (.iload_n 3, 1) := by decide +kernel
theorem d_Bo_openQueueByCredit_66 : decode b_Bo_openQueueByCredit 66 = .ok (.aaload, 1) := by decide +kernel
theorem d_Bo_openQueueByCredit_67 : decode b_Bo_openQueueByCredit 67 = .ok (.getfield 194, 3) := by decide +kernel
theorem d_Bo_openQueueByCredit_70 : decode b_Bo_openQueueByCredit 70 = .ok (.aload_n 0, 1) := by decide +kernel
theorem d_Bo_openQueueByCredit_71 : decode b_Bo_openQueueByCredit 71 = .ok (.getfield 15, 3) := by decide +kernel
theorem d_Bo_openQueueByCredit_74 : decode b_Bo_openQueueByCredit 74 = .ok (.iload_n 1, 1) := by decide +kernel
theorem d_Bo_openQueueByCredit_75 : decode b_Bo_openQueueByCredit 75 = .ok (.aaload, 1) := by decide +kernel
theorem d_Bo_openQueueByCredit_76 : decode b_Bo_openQueueByCredit 76 = .ok (.getfield 194, 3) := by decide +kernel
theorem d_Bo_openQueueByCredit_79 : decode b_Bo_openQueueByCredit 79 = .ok (.if_icmp .le 5, 3) := by decide +kernel
theorem d_Bo_openQueueByCredit_82 : decode b_Bo_openQueueByCredit 82 = .ok (.iload_n 3, 1) := by decide +kernel
theorem d_Bo_openQueueByCredit_83 : decode b_Bo_openQueueByCredit 83 = .ok (.istore_n 1, 1) := by decide +kernel
theorem d_Bo_openQueueByCredit_84 : decode b_Bo_openQueueByCredit 84 = .ok (.iinc 3 1, 3) := by decide +kernel
theorem d_Bo_openQueueByCredit_87 : decode b_Bo_openQueueByCredit 87 = .ok (.goto (-80), 3) := by decide +kernel
theorem d_Bo_openQueueByCredit_90 : decode b_Bo_openQueueByCredit 90 = .ok (.iload_n 1, 1) := by decide +kernel
theorem d_Bo_openQueueByCredit_91 : decode b_Bo_openQueueByCredit 91 = .ok (.bipush (-4), 2) := by decide +kernel
theorem d_Bo_openQueueByCredit_93 : decode b_Bo_openQueueByCredit 93 = .ok (.if_icmp .eq 18, 3) := by decide +kernel
theorem d_Bo_openQueueByCredit_96 : decode b_Bo_openQueueByCredit 96 = .ok (.aload_n 0, 1) := by decide +kernel
theorem d_Bo_openQueueByCredit_97 : decode b_Bo_openQueueByCredit 97 = .ok (.getfield 15, 3) := by decide +kernel
theorem d_Bo_openQueueByCredit_100 : decode b_Bo_openQueueByCredit 100 = .ok (.iload_n 1, 1) := by decide +kernel
theorem d_Bo_openQueueByCredit_101 : decode b_Bo_openQueueByCredit 101 = .ok (.aaload, 1) := by decide +kernel
theorem d_Bo_openQueueByCredit_102 : decode b_Bo_openQueueByCredit 102 = .ok (.dup, 1) := by decide +kernel
theorem d_Bo_openQueueByCredit_103 : decode b_Bo_openQueueByCredit 103 = .ok (.getfield 194, 3) := by decide +kernel
theorem d_Bo_openQueueByCredit_106 : decode b_Bo_openQueueByCredit 106 = .ok (.iload_n 2, 1) := by decide +kernel
theorem d_Bo_openQueueByCredit_107 : decode b_Bo_openQueueByCredit 107 = .ok (.isub, 1) := by decide +kernel
theorem d_Bo_openQueueByCredit_108 : decode b_Bo_openQueueByCredit 108 = .ok (.putfield 194, 3) := by decide +kernel
theorem d_Bo_openQueueByCredit_111 : decode b_Bo_openQueueByCredit 111 = .ok (.iload_n 1, 1) := by decide +kernel
theorem d_Bo_openQueueByCredit_112 : decode b_Bo_openQueueByCredit 112 = .ok (.ireturn, 1) := by decide +kernel
theorem d_Bo_queue_0 : decode b_Bo_queue 0 = .ok (.iload_n 1, 1) := by decide +kernel
theorem d_Bo_queue_1 : decode b_Bo_queue 1 = .ok (.invokestatic 41, 3) := by decide +kernel
theorem d_Bo_queue_4 : decode b_Bo_queue 4 = .ok (.ifCond .eq 34, 3) := by decide +kernel
theorem d_Bo_queue_7 : decode b_Bo_queue 7 = .ok (.iload_n 2, 1) := by decide +kernel
theorem d_Bo_queue_8 : decode b_Bo_queue 8 = .ok (.iconst 0, 1) := by decide +kernel
theorem d_Bo_queue_9 : decode b_Bo_queue 9 = .ok (.bipush 8, 2) := by decide +kernel
theorem d_Bo_queue_11 : decode b_Bo_queue 11 = .ok (.invokestatic 45, 3) := by decide +kernel
theorem d_Bo_queue_14 : decode b_Bo_queue 14 = .ok (.ifCond .eq 24, 3) := by decide +kernel
theorem d_Bo_queue_17 : decode b_Bo_queue 17 = .ok (.iload_n 3, 1) := by decide +kernel
theorem d_Bo_queue_18 : decode b_Bo_queue 18 = .ok (.iconst 0, 1) := by decide +kernel
theorem d_Bo_queue_19 : decode b_Bo_queue 19 = .ok (.bipush 20, 2) := by decide +kernel
theorem d_Bo_queue_21 : decode b_Bo_queue 21 = .ok (.invokestatic 45, 3) := by decide +kernel
theorem d_Bo_queue_24 : decode b_Bo_queue 24 = .ok (.ifCond .eq 14, 3) := by decide +kernel
theorem d_Bo_queue_27 : decode b_Bo_queue 27 = .ok (.iload 4, 2) := by decide +kernel
theorem d_Bo_queue_29 : decode b_Bo_queue 29 = .ok (.iconst 1, 1) := by decide +kernel
theorem d_Bo_queue_30 : decode b_Bo_queue 30 = .ok (.bipush 50, 2) := by decide +kernel
theorem d_Bo_queue_32 : decode b_Bo_queue 32 = .ok (.invokestatic 45, 3) := by decide +kernel
theorem d_Bo_queue_35 : decode b_Bo_queue 35 = .ok (.ifCond .ne 5, 3) := by decide +kernel
theorem d_Bo_queue_38 : decode b_Bo_queue 38 = .ok (.iconst (-1), 1) := by decide +kernel
theorem d_Bo_queue_39 : decode b_Bo_queue 39 = .ok (.ireturn, 1) := by decide +kernel
theorem d_Bo_queue_40 : decode b_Bo_queue 40 = .ok (.aload_n 0, 1) := by decide +kernel
theorem d_Bo_queue_41 : decode b_Bo_queue 41 = .ok (.getfield 15, 3) := by decide +kernel
theorem d_Bo_queue_44 : decode b_Bo_queue 44 = .ok (.iload_n 1, 1) := by decide +kernel
theorem d_Bo_queue_45 : decode b_Bo_queue 45 = .ok (.aaload, 1) := by decide +kernel
theorem d_Bo_queue_46 : decode b_Bo_queue 46 = .ok (.iload_n 2, 1) := by decide +kernel
theorem d_Bo_queue_47 : decode b_Bo_queue 47 = .ok (.iload_n 3, 1) := by decide +kernel
theorem d_Bo_queue_48 : decode b_Bo_queue 48 = .ok (.iload 4, 2) := by decide +kernel
theorem d_Bo_queue_50 : decode b_Bo_queue 50 = .ok (.aload_n 0, 1) := by decide +kernel
theorem d_Bo_queue_51 : decode b_Bo_queue 51 = .ok (.getfield 34, 3) := by decide +kernel
theorem d_Bo_queue_54 : decode b_Bo_queue 54 = .ok (.invokevirtual 49, 3) := by decide +kernel
theorem d_Bo_queue_57 : decode b_Bo_queue 57 = .ok (.iconst 0, 1) := by decide +kernel
theorem d_Bo_queue_58 : decode b_Bo_queue 58 = .ok (.ireturn, 1) := by decide +kernel
theorem d_Bo_key_0 : decode b_Bo_key 0 = .ok (.iload_n 1, 1) := by decide +kernel
theorem d_Bo_key_1 : decode b_Bo_key 1 = .ok (.iconst (-1), 1) := by decide +kernel
theorem d_Bo_key_2 : decode b_Bo_key 2 = .ok (.if_icmp .eq 15, 3) := by decide +kernel
theorem d_Bo_key_5 : decode b_Bo_key 5 = .ok (.iload_n 1, 1) := by decide +kernel
theorem d_Bo_key_6 : decode b_Bo_key 6 = .ok (.iconst 0, 1) := by decide +kernel
theorem d_Bo_key_7 : decode b_Bo_key 7 = .ok (.bipush 31, 2) := by decide +kernel
theorem d_Bo_key_9 : decode b_Bo_key 9 = .ok (.invokestatic 45, 3) := by decide +kernel
theorem d_Bo_key_12 : decode b_Bo_key 12 = .ok (.ifCond .ne 5, 3) := by decide +kernel
theorem d_Bo_key_15 : decode b_Bo_key 15 = .ok (.iconst (-1), 1) := by decide +kernel
theorem d_Bo_key_16 : decode b_Bo_key 16 = .ok (.ireturn, 1) := by decide +kernel
theorem d_Bo_key_17 : decode b_Bo_key 17 = .ok (.aload_n 0, 1) := by decide +kernel
theorem d_Bo_key_18 : decode b_Bo_key 18 = .ok (.iload_n 1, 1) := by decide +kernel
theorem d_Bo_key_19 : decode b_Bo_key 19 = .ok (.putfield 38, 3) := by decide +kernel
theorem d_Bo_key_22 : decode b_Bo_key 22 = .ok (.iconst 0, 1) := by decide +kernel
theorem d_Bo_key_23 : decode b_Bo_key 23 = .ok (.ireturn, 1) := by decide +kernel
theorem d_Bo_submit_0 : decode b_Bo_submit 0 = .ok (.iload_n 1, 1) := by decide +kernel
theorem d_Bo_submit_1 : decode b_Bo_submit 1 = .ok (.invokestatic 41, 3) := by decide +kernel
theorem d_Bo_submit_4 : decode b_Bo_submit 4 = .ok (.ifCond .eq 45, 3) := by decide +kernel
theorem d_Bo_submit_7 : decode b_Bo_submit 7 = .ok (.iload_n 2, 1) := by decide +kernel
theorem d_Bo_submit_8 : decode b_Bo_submit 8 = .ok (.iconst 0, 1) := by decide +kernel
theorem d_Bo_submit_9 : decode b_Bo_submit 9 = .ok (.bipush 9, 2) := by decide +kernel
theorem d_Bo_submit_11 : decode b_Bo_submit 11 = .ok (.invokestatic 45, 3) := by decide +kernel
theorem d_Bo_submit_14 : decode b_Bo_submit 14 = .ok (.ifCond .eq 35, 3) := by decide +kernel
theorem d_Bo_submit_17 : decode b_Bo_submit 17 = .ok (.iload_n 3, 1) := by decide +kernel
theorem d_Bo_submit_18 : decode b_Bo_submit 18 = .ok (.iconst 0, 1) := by decide +kernel
theorem d_Bo_submit_19 : decode b_Bo_submit 19 = .ok (.sipush 1000, 3) := by decide +kernel
theorem d_Bo_submit_22 : decode b_Bo_submit 22 = .ok (.invokestatic 45, 3) := by decide +kernel
theorem d_Bo_submit_25 : decode b_Bo_submit 25 = .ok (.ifCond .eq 24, 3) := by decide +kernel
theorem d_Bo_submit_28 : decode b_Bo_submit 28 = .ok (.iload 4, 2) := by decide +kernel
theorem d_Bo_submit_30 : decode b_Bo_submit 30 = .ok (.iconst 0, 1) := by decide +kernel
theorem d_Bo_submit_31 : decode b_Bo_submit 31 = .ok (.iconst 5, 1) := by decide +kernel
theorem d_Bo_submit_32 : decode b_Bo_submit 32 = .ok (.invokestatic 45, 3) := by decide +kernel
theorem d_Bo_submit_35 : decode b_Bo_submit 35 = .ok (.ifCond .eq 14, 3) := by decide +kernel
theorem d_Bo_submit_38 : decode b_Bo_submit 38 = .ok (.iload 5, 2) := by decide +kernel
theorem d_Bo_submit_40 : decode b_Bo_submit 40 = .ok (.iconst 1, 1) := by decide +kernel
theorem d_Bo_submit_41 : decode b_Bo_submit 41 = .ok (.bipush 50, 2) := by decide +kernel
theorem d_Bo_submit_43 : decode b_Bo_submit 43 = .ok (.invokestatic 45, 3) := by decide +kernel
theorem d_Bo_submit_46 : decode b_Bo_submit 46 = .ok (.ifCond .ne 5, 3) := by decide +kernel
theorem d_Bo_submit_49 : decode b_Bo_submit 49 = .ok (.iconst (-1), 1) := by decide +kernel
theorem d_Bo_submit_50 : decode b_Bo_submit 50 = .ok (.ireturn, 1) := by decide +kernel
theorem d_Bo_submit_51 : decode b_Bo_submit 51 = .ok (.aload_n 0, 1) := by decide +kernel
theorem d_Bo_submit_52 : decode b_Bo_submit 52 = .ok (.getfield 23, 3) := by decide +kernel
theorem d_Bo_submit_55 : decode b_Bo_submit 55 = .ok (.aload_n 0, 1) := by decide +kernel
theorem d_Bo_submit_56 : decode b_Bo_submit 56 = .ok (.getfield 38, 3) := by decide +kernel
theorem d_Bo_submit_59 : decode b_Bo_submit 59 = .ok (.invokevirtual 53, 3) := by decide +kernel
theorem d_Bo_submit_62 : decode b_Bo_submit 62 = .ok (.ifCond .eq 6, 3) := by decide +kernel
theorem d_Bo_submit_65 : decode b_Bo_submit 65 = .ok (.bipush (-3), 2) := by decide +kernel
theorem d_Bo_submit_67 : decode b_Bo_submit 67 = .ok (.ireturn, 1) := by decide +kernel
theorem d_Bo_submit_68 : decode b_Bo_submit 68 = .ok (.aload_n 0, 1) := by decide +kernel
theorem d_Bo_submit_69 : decode b_Bo_submit 69 = .ok (.getfield 23, 3) := by decide +kernel
theorem d_Bo_submit_72 : decode b_Bo_submit 72 = .ok (.iload_n 1, 1) := by decide +kernel
theorem d_Bo_submit_73 : decode b_Bo_submit 73 = .ok (.iload_n 2, 1) := by decide +kernel
theorem d_Bo_submit_74 : decode b_Bo_submit 74 = .ok (.invokevirtual 56, 3) := by decide +kernel
theorem d_Bo_submit_77 : decode b_Bo_submit 77 = .ok (.astore 6, 2) := by decide +kernel
theorem d_Bo_submit_79 : decode b_Bo_submit 79 = .ok (.aload 6, 2) := by decide +kernel
theorem d_Bo_submit_81 : decode b_Bo_submit 81 = .ok (.ifnonnull 6, 3) := by decide +kernel
theorem d_Bo_submit_84 : decode b_Bo_submit 84 = .ok (.bipush (-2), 2) := by decide +kernel
theorem d_Bo_submit_86 : decode b_Bo_submit 86 = .ok (.ireturn, 1) := by decide +kernel
theorem d_Bo_submit_87 : decode b_Bo_submit 87 = .ok (.aload 6, 2) := by decide +kernel
theorem d_Bo_submit_89 : decode b_Bo_submit 89 = .ok (.iload 4, 2) := by decide +kernel
theorem d_Bo_submit_91 : decode b_Bo_submit 91 = .ok (.putfield 60, 3) := by decide +kernel
theorem d_Bo_submit_94 : decode b_Bo_submit 94 = .ok (.aload 6, 2) := by decide +kernel
theorem d_Bo_submit_96 : decode b_Bo_submit 96 = .ok (.iload 5, 2) := by decide +kernel
theorem d_Bo_submit_98 : decode b_Bo_submit 98 = .ok (.putfield 65, 3) := by decide +kernel
theorem d_Bo_submit_101 : decode b_Bo_submit 101 = .ok (.aload 6, 2) := by decide +kernel
theorem d_Bo_submit_103 : decode b_Bo_submit 103 = .ok (.aload_n 0, 1) := by decide +kernel
theorem d_Bo_submit_104 : decode b_Bo_submit 104 = .ok (.getfield 38, 3) := by decide +kernel
theorem d_Bo_submit_107 : decode b_Bo_submit 107 = .ok (.putfield 68, 3) := by decide +kernel
theorem d_Bo_submit_110 : decode b_Bo_submit 110 = .ok (.aload_n 0, 1) := by decide +kernel
theorem d_Bo_submit_111 : decode b_Bo_submit 111 = .ok (.iconst (-1), 1) := by decide +kernel
theorem d_Bo_submit_112 : decode b_Bo_submit 112 = .ok (.putfield 38, 3) := by decide +kernel
theorem d_Bo_submit_115 : decode b_Bo_submit 115 = .ok (.iload_n 3, 1) := by decide +kernel
theorem d_Bo_submit_116 : decode b_Bo_submit 116 = .ok (.ifCond .ne 16, 3) := by decide +kernel
theorem d_Bo_submit_119 : decode b_Bo_submit 119 = .ok (.aload_n 0, 1) := by decide +kernel
theorem d_Bo_submit_120 : decode b_Bo_submit 120 = .ok (.getfield 23, 3) := by decide +kernel
theorem d_Bo_submit_123 : decode b_Bo_submit 123 = .ok (.aload 6, 2) := by decide +kernel
theorem d_Bo_submit_125 : decode b_Bo_submit 125 = .ok (.iconst 1, 1) := by decide +kernel
theorem d_Bo_submit_126 : decode b_Bo_submit 126 = .ok (.invokevirtual 71, 3) := by decide +kernel
theorem d_Bo_submit_129 : decode b_Bo_submit 129 = .ok (.goto 15, 3) := by decide +kernel
theorem d_Bo_submit_132 : decode b_Bo_submit 132 = .ok (.aload 6, 2) := by decide +kernel
theorem d_Bo_submit_134 : decode b_Bo_submit 134 = .ok (.iconst 0, 1) := by decide +kernel
theorem d_Bo_submit_135 : decode b_Bo_submit 135 = .ok (.aload_n 0, 1) := by decide +kernel
theorem d_Bo_submit_136 : decode b_Bo_submit 136 = .ok (.getfield 34, 3) := by decide +kernel
theorem d_Bo_submit_139 : decode b_Bo_submit 139 = .ok (.iload_n 3, 1) := by decide +kernel
theorem d_Bo_submit_140 : decode b_Bo_submit 140 = .ok (.iadd, 1) := by decide +kernel
theorem d_Bo_submit_141 : decode b_Bo_submit 141 = .ok (.invokevirtual 75, 3) := by decide +kernel
theorem d_Bo_submit_144 : decode b_Bo_submit 144 = .ok (.aload_n 0, 1) := by decide +kernel
theorem d_Bo_submit_145 : decode b_Bo_submit 145 = .ok (.getfield 30, 3) := by decide +kernel
theorem d_Bo_submit_148 : decode b_Bo_submit 148 = .ok (.aload_n 0, 1) := by decide +kernel
theorem d_Bo_submit_149 : decode b_Bo_submit 149 = .ok (.getfield 23, 3) := by decide +kernel
theorem d_Bo_submit_152 : decode b_Bo_submit 152 = .ok (.invokevirtual 79, 3) := by decide +kernel
theorem d_Bo_submit_155 : decode b_Bo_submit 155 = .ok (.aload 6, 2) := by decide +kernel
theorem d_Bo_submit_157 : decode b_Bo_submit 157 = .ok (.getfield 83, 3) := by decide +kernel
theorem d_Bo_submit_160 : decode b_Bo_submit 160 = .ok (.ireturn, 1) := by decide +kernel
theorem d_Bo_hold_0 : decode b_Bo_hold 0 = .ok (.iload_n 1, 1) := by decide +kernel
theorem d_Bo_hold_1 : decode b_Bo_hold 1 = .ok (.invokestatic 41, 3) := by decide +kernel
theorem d_Bo_hold_4 : decode b_Bo_hold 4 = .ok (.ifCond .eq 13, 3) := by decide +kernel
theorem d_Bo_hold_7 : decode b_Bo_hold 7 = .ok (.iload_n 2, 1) := by decide +kernel
theorem d_Bo_hold_8 : decode b_Bo_hold 8 = .ok (.iconst 0, 1) := by decide +kernel
theorem d_Bo_hold_9 : decode b_Bo_hold 9 = .ok (.bipush 9, 2) := by decide +kernel
theorem d_Bo_hold_11 : decode b_Bo_hold 11 = .ok (.invokestatic 45, 3) := by decide +kernel
theorem d_Bo_hold_14 : decode b_Bo_hold 14 = .ok (.ifCond .ne 5, 3) := by decide +kernel
theorem d_Bo_hold_17 : decode b_Bo_hold 17 = .ok (.iconst (-1), 1) := by decide +kernel
theorem d_Bo_hold_18 : decode b_Bo_hold 18 = .ok (.ireturn, 1) := by decide +kernel
theorem d_Bo_hold_19 : decode b_Bo_hold 19 = .ok (.aload_n 0, 1) := by decide +kernel
theorem d_Bo_hold_20 : decode b_Bo_hold 20 = .ok (.getfield 23, 3) := by decide +kernel
theorem d_Bo_hold_23 : decode b_Bo_hold 23 = .ok (.iload_n 1, 1) := by decide +kernel
theorem d_Bo_hold_24 : decode b_Bo_hold 24 = .ok (.iload_n 2, 1) := by decide +kernel
theorem d_Bo_hold_25 : decode b_Bo_hold 25 = .ok (.invokevirtual 56, 3) := by decide +kernel
theorem d_Bo_hold_28 : decode b_Bo_hold 28 = .ok (.astore_n 3, 1) := by decide +kernel
theorem d_Bo_hold_29 : decode b_Bo_hold 29 = .ok (.aload_n 3, 1) := by decide +kernel
theorem d_Bo_hold_30 : decode b_Bo_hold 30 = .ok (.ifnonnull 6, 3) := by decide +kernel
theorem d_Bo_hold_33 : decode b_Bo_hold 33 = .ok (.bipush (-2), 2) := by decide +kernel
theorem d_Bo_hold_35 : decode b_Bo_hold 35 = .ok (.ireturn, 1) := by decide +kernel
theorem d_Bo_hold_36 : decode b_Bo_hold 36 = .ok (.aload_n 0, 1) := by decide +kernel
theorem d_Bo_hold_37 : decode b_Bo_hold 37 = .ok (.getfield 30, 3) := by decide +kernel
theorem d_Bo_hold_40 : decode b_Bo_hold 40 = .ok (.aload_n 0, 1) := by decide +kernel
theorem d_Bo_hold_41 : decode b_Bo_hold 41 = .ok (.getfield 23, 3) := by decide +kernel
theorem d_Bo_hold_44 : decode b_Bo_hold 44 = .ok (.invokevirtual 79, 3) := by decide +kernel
theorem d_Bo_hold_47 : decode b_Bo_hold 47 = .ok (.aload_n 3, 1) := by decide +kernel
theorem d_Bo_hold_48 : decode b_Bo_hold 48 = .ok (.getfield 83, 3) := by decide +kernel
theorem d_Bo_hold_51 : decode b_Bo_hold 51 = .ok (.ireturn, 1) := by decide +kernel
theorem d_Bo_join_0 : decode b_Bo_join 0 = .ok (.aload_n 0, 1) := by decide +kernel
theorem d_Bo_join_1 : decode b_Bo_join 1 = .ok (.getfield 23, 3) := by decide +kernel
theorem d_Bo_join_4 : decode b_Bo_join 4 = .ok (.iload_n 1, 1) := by decide +kernel
theorem d_Bo_join_5 : decode b_Bo_join 5 = .ok (.invokevirtual 86, 3) := by decide +kernel
theorem d_Bo_join_8 : decode b_Bo_join 8 = .ok (.astore_n 3, 1) := by decide +kernel
theorem d_Bo_join_9 : decode b_Bo_join 9 = .ok (.aload_n 0, 1) := by decide +kernel
theorem d_Bo_join_10 : decode b_Bo_join 10 = .ok (.getfield 23, 3) := by decide +kernel
theorem d_Bo_join_13 : decode b_Bo_join 13 = .ok (.iload_n 2, 1) := by decide +kernel
theorem d_Bo_join_14 : decode b_Bo_join 14 = .ok (.invokevirtual 86, 3) := by decide +kernel
theorem d_Bo_join_17 : decode b_Bo_join 17 = .ok (.astore 4, 2) := by decide +kernel
theorem d_Bo_join_19 : decode b_Bo_join 19 = .ok (.aload_n 3, 1) := by decide +kernel
theorem d_Bo_join_20 : decode b_Bo_join 20 = .ok (.ifnull 13, 3) := by decide +kernel
theorem d_Bo_join_23 : decode b_Bo_join 23 = .ok (.aload 4, 2) := by decide +kernel
theorem d_Bo_join_25 : decode b_Bo_join 25 = .ok (.ifnull 8, 3) := by decide +kernel
theorem d_Bo_join_28 : decode b_Bo_join 28 = .ok (.iload_n 1, 1) := by decide +kernel
theorem d_Bo_join_29 : decode b_Bo_join 29 = .ok (.iload_n 2, 1) := by decide +kernel
theorem d_Bo_join_30 : decode b_Bo_join 30 = .ok (.if_icmp .ne 5, 3) := by decide +kernel
theorem d_Bo_join_33 : decode b_Bo_join 33 = .ok (.iconst (-1), 1) := by decide +kernel
theorem d_Bo_join_34 : decode b_Bo_join 34 = .ok (.ireturn, 1) := by decide +kernel
theorem d_Bo_join_35 : decode b_Bo_join 35 = .ok (.aload_n 3, 1) := by decide +kernel
theorem d_Bo_join_36 : decode b_Bo_join 36 = .ok (.invokevirtual 90, 3) := by decide +kernel
theorem d_Bo_join_39 : decode b_Bo_join 39 = .ok (.ifCond .eq 21, 3) := by decide +kernel
theorem d_Bo_join_42 : decode b_Bo_join 42 = .ok (.aload_n 3, 1) := by decide +kernel
theorem d_Bo_join_43 : decode b_Bo_join 43 = .ok (.getfield 94, 3) := by decide +kernel
theorem d_Bo_join_46 : decode b_Bo_join 46 = .ok (.iconst (-1), 1) := by decide +kernel
theorem d_Bo_join_47 : decode b_Bo_join 47 = .ok (.if_icmp .ne 13, 3) := by decide +kernel
theorem d_Bo_join_50 : decode b_Bo_join 50 = .ok (.aload 4, 2) := by decide +kernel
theorem d_Bo_join_52 : decode b_Bo_join 52 = .ok (.getfield 97, 3) := by decide +kernel
theorem d_Bo_join_55 : decode b_Bo_join 55 = .ok (.bipush 6, 2) := by decide +kernel
theorem d_Bo_join_57 : decode b_Bo_join 57 = .ok (.if_icmp .eq 5, 3) := by decide +kernel
theorem d_Bo_join_60 : decode b_Bo_join 60 = .ok (.iconst (-1), 1) := by decide +kernel
theorem d_Bo_join_61 : decode b_Bo_join 61 = .ok (.ireturn, 1) := by decide +kernel
theorem d_Bo_join_62 : decode b_Bo_join 62 = .ok (.aload_n 3, 1) := by decide +kernel
theorem d_Bo_join_63 : decode b_Bo_join 63 = .ok (.iload_n 2, 1) := by decide +kernel
theorem d_Bo_join_64 : decode b_Bo_join 64 = .ok (.putfield 94, 3) := by decide +kernel
theorem d_Bo_join_67 : decode b_Bo_join 67 = .ok (.aload 4, 2) := by decide +kernel
theorem d_Bo_join_69 : decode b_Bo_join 69 = .ok (.dup, 1) := by decide +kernel
theorem d_Bo_join_70 : decode b_Bo_join 70 = .ok (.getfield 100, 3) := by decide +kernel
theorem d_Bo_join_73 : decode b_Bo_join 73 = .ok (.iconst 1, 1) := by decide +kernel
theorem d_Bo_join_74 : decode b_Bo_join 74 = .ok (.iadd, 1) := by decide +kernel
theorem d_Bo_join_75 : decode b_Bo_join 75 = .ok (.putfield 100, 3) := by decide +kernel
theorem d_Bo_join_78 : decode b_Bo_join 78 = .ok (.aload_n 0, 1) := by decide +kernel
theorem d_Bo_join_79 : decode b_Bo_join 79 = .ok (.getfield 30, 3) := by decide +kernel
theorem d_Bo_join_82 : decode b_Bo_join 82 = .ok (.aload_n 0, 1) := by decide +kernel
theorem d_Bo_join_83 : decode b_Bo_join 83 = .ok (.getfield 23, 3) := by decide +kernel
theorem d_Bo_join_86 : decode b_Bo_join 86 = .ok (.invokevirtual 79, 3) := by decide +kernel
theorem d_Bo_join_89 : decode b_Bo_join 89 = .ok (.iconst 0, 1) := by decide +kernel
theorem d_Bo_join_90 : decode b_Bo_join 90 = .ok (.ireturn, 1) := by decide +kernel
def fn_Bo_within (N : Nat) (p0 : Int32) (p1 : Int32) (p2 : Int32) (σ : gx_M) : Option (Int32 × gx_M) := if p0 < p1 then (some ((0 : Int32), σ)) else (if p2 < p0 then (some ((0 : Int32), σ)) else (some ((1 : Int32), σ)))
set_option maxHeartbeats 4000000 in
set_option maxRecDepth 100000 in
theorem ct_Bo_within (l : Launch) (D : va_G) (dA : Nat → ClassId) (adr : Nat → Nat) (A : Nat → Prop) (hA : gx_A A adr) (N : Nat) (p0 : Int32) (p1 : Int32) (p2 : Int32) (σ : gx_M) (r : Int32) (σ' : gx_M) (hf : fn_Bo_within N p0 p1 p2 σ = some (r, σ')) : Met l y_Bo_within w_Bo_within rm_Bo_within (gx_Pc D dA adr σ [.int p0, .int p1, .int p2]) (gx_Q D dA adr A (some (.int r)) σ') 0 0 A := by
  refine Met.ofW (cc := b_Bo_within) (maxL := 3) (ret := some .boolean) (by decide) rfl ?_
  intro p e s m args below meth c s₁ B hml hv
  obtain ⟨rfl, hP, hK⟩ := hv
  have hx := B.exec
  have hb := B.bytes
  have hr := B.returns
  have hlocks := B.notSynchronized
  have ht : ∀ w ∈ gx_tb, w.before _ s = true := fun w h => atoms_spec (ws := w_Bo_within) B.pre w (List.mem_cons_of_mem _ h)
  have hown : s.vm.findClass R_Bo = some m.cls := findClass_of_methodNamed B.named
  have G : gx_G p m c b_Bo_within 3 s _ gx_tb R_Bo D dA := ⟨⟨hx, hb, hml, hown, ht⟩, hK⟩
  have hI : gx_I D dA adr A s.heap σ s.heap [] := ⟨hP, va_S.rf⟩
  have hl := lv_entry ([.int p0, .int p1, .int p2]) (n := 3) (Nat.le_of_ble_eq_true rfl)
  rw [lg_entry_eq]
  generalize (lg_sl ([.int p0, .int p1, .int p2]) ++ List.replicate (3 - (lg_sl ([.int p0, .int p1, .int p2])).length) Slot.unset).toArray = ls at hl ⊢
  have hl : lv_has ls 3 [(0, .int p0), (1, .int p1), (2, .int p2)] := hl
  rw [fn_Bo_within] at hf
  refine lv_iload_n hx hb d_Bo_within_0 rfl (lv_at hl 0 rfl) ?_
  refine lv_iload_n hx hb d_Bo_within_1 rfl (lv_at hl 1 rfl) ?_
  refine lv_icmp_lt (tgt := 14) hx hb d_Bo_within_2 (by decide) (fun c_1 => ?_) (fun c_1 => ?_)
  · replace hf := (if_pos c_1).symm.trans hf
    refine lv_iconst (v := 0) hx hb d_Bo_within_14 (by decide) ?_
    cases hf
    exact W.zret (v := (0 : Int32)) hx hb hr (by decide) (gx_F hI) hI.2.2.2 d_Bo_within_15
  · replace hf := (if_neg c_1).symm.trans hf
    refine lv_iload_n hx hb d_Bo_within_5 rfl (lv_at hl 0 rfl) ?_
    refine lv_iload_n hx hb d_Bo_within_6 rfl (lv_at hl 2 rfl) ?_
    refine lv_icmp_gt (tgt := 14) hx hb d_Bo_within_7 (by decide) (fun c_2 => ?_) (fun c_2 => ?_)
    · replace hf := (if_pos c_2).symm.trans hf
      refine lv_iconst (v := 0) hx hb d_Bo_within_14 (by decide) ?_
      cases hf
      exact W.zret (v := (0 : Int32)) hx hb hr (by decide) (gx_F hI) hI.2.2.2 d_Bo_within_15
    · replace hf := (if_neg c_2).symm.trans hf
      refine lv_iconst (v := 1) hx hb d_Bo_within_10 (by decide) ?_
      refine lv_goto (tgt := 15) hx hb d_Bo_within_11 (by decide) ?_
      cases hf
      exact W.zret (v := (1 : Int32)) hx hb hr (by decide) (gx_F hI) hI.2.2.2 d_Bo_within_15
def fn_Bo_isQueue (N : Nat) (p0 : Int32) (σ : gx_M) : Option (Int32 × gx_M) := gx_bd (fn_Bo_within N p0 ((0 : Int32)) ((3 : Int32)) σ) (fun r_3 σ_1 => if r_3 = 0 ∨ r_3 = 1 then (some (r_3, σ_1)) else none)
set_option maxHeartbeats 4000000 in
set_option maxRecDepth 100000 in
theorem ct_Bo_isQueue (l : Launch) (D : va_G) (dA : Nat → ClassId) (adr : Nat → Nat) (A : Nat → Prop) (hA : gx_A A adr) (N : Nat) (p0 : Int32) (σ : gx_M) (r : Int32) (σ' : gx_M) (hf : fn_Bo_isQueue N p0 σ = some (r, σ')) : Met l y_Bo_isQueue w_Bo_isQueue rm_Bo_isQueue (gx_Pc D dA adr σ [.int p0]) (gx_Q D dA adr A (some (.int r)) σ') 0 0 A := by
  refine Met.ofW (cc := b_Bo_isQueue) (maxL := 1) (ret := some .boolean) (by decide) rfl ?_
  intro p e s m args below meth c s₁ B hml hv
  obtain ⟨rfl, hP, hK⟩ := hv
  have hx := B.exec
  have hb := B.bytes
  have hr := B.returns
  have hlocks := B.notSynchronized
  have ht : ∀ w ∈ gx_tb, w.before _ s = true := fun w h => atoms_spec (ws := w_Bo_isQueue) B.pre w (List.mem_cons_of_mem _ h)
  have hown : s.vm.findClass R_Bo = some m.cls := findClass_of_methodNamed B.named
  have G : gx_G p m c b_Bo_isQueue 1 s _ gx_tb R_Bo D dA := ⟨⟨hx, hb, hml, hown, ht⟩, hK⟩
  have hI : gx_I D dA adr A s.heap σ s.heap [] := ⟨hP, va_S.rf⟩
  have hl := lv_entry ([.int p0]) (n := 1) (Nat.le_of_ble_eq_true rfl)
  rw [lg_entry_eq]
  generalize (lg_sl ([.int p0]) ++ List.replicate (1 - (lg_sl ([.int p0])).length) Slot.unset).toArray = ls at hl ⊢
  have hl : lv_has ls 1 [(0, .int p0)] := hl
  rw [fn_Bo_isQueue] at hf
  refine lv_iload_n hx hb d_Bo_isQueue_0 rfl (lv_at hl 0 rfl) ?_
  refine lv_iconst (v := 0) hx hb d_Bo_isQueue_1 (by decide) ?_
  refine lv_iconst (v := 3) hx hb d_Bo_isQueue_2 (by decide) ?_
  obtain ⟨r_3, σ_1, hc_2, hf⟩ := gx_bde hf
  refine gx_go (va_runS (As := [.int p0, .int ((0 : Int32)), .int ((3 : Int32))]) (rest := []) G.1 (ct_Bo_within l D dA adr A hA N p0 ((0 : Int32)) ((3 : Int32)) σ r_3 σ_1 hc_2) (cwS 3 ht gi_Bo_45 rfl rfl rfl (by decide +kernel) ⟨Nat.le_of_ble_eq_true rfl, Nat.le_of_ble_eq_true rfl⟩) (gx_pre G hI) rfl rfl hl.1 rfl (lv_room (Nat.le_of_ble_eq_true rfl)) d_Bo_isQueue_3 ⟨Nat.zero_le _, Nat.zero_le _⟩) hI (st1 := [.int r_3]) rfl (fun H locs hI => ?_)
  obtain ⟨hb_4, hf⟩ := gx_gd hf
  cases hf
  exact W.zret hx hb hr (gx_nb hb_4) (gx_F hI) hI.2.2.2 d_Bo_isQueue_6
def fn_Bo_isWorker (N : Nat) (p0 : Int32) (σ : gx_M) : Option (Int32 × gx_M) := gx_bd (fn_Bo_within N p0 ((0 : Int32)) ((5 : Int32)) σ) (fun r_3 σ_1 => if r_3 = 0 ∨ r_3 = 1 then (some (r_3, σ_1)) else none)
set_option maxHeartbeats 4000000 in
set_option maxRecDepth 100000 in
theorem ct_Bo_isWorker (l : Launch) (D : va_G) (dA : Nat → ClassId) (adr : Nat → Nat) (A : Nat → Prop) (hA : gx_A A adr) (N : Nat) (p0 : Int32) (σ : gx_M) (r : Int32) (σ' : gx_M) (hf : fn_Bo_isWorker N p0 σ = some (r, σ')) : Met l y_Bo_isWorker w_Bo_isWorker rm_Bo_isWorker (gx_Pc D dA adr σ [.int p0]) (gx_Q D dA adr A (some (.int r)) σ') 0 0 A := by
  refine Met.ofW (cc := b_Bo_isWorker) (maxL := 1) (ret := some .boolean) (by decide) rfl ?_
  intro p e s m args below meth c s₁ B hml hv
  obtain ⟨rfl, hP, hK⟩ := hv
  have hx := B.exec
  have hb := B.bytes
  have hr := B.returns
  have hlocks := B.notSynchronized
  have ht : ∀ w ∈ gx_tb, w.before _ s = true := fun w h => atoms_spec (ws := w_Bo_isWorker) B.pre w (List.mem_cons_of_mem _ h)
  have hown : s.vm.findClass R_Bo = some m.cls := findClass_of_methodNamed B.named
  have G : gx_G p m c b_Bo_isWorker 1 s _ gx_tb R_Bo D dA := ⟨⟨hx, hb, hml, hown, ht⟩, hK⟩
  have hI : gx_I D dA adr A s.heap σ s.heap [] := ⟨hP, va_S.rf⟩
  have hl := lv_entry ([.int p0]) (n := 1) (Nat.le_of_ble_eq_true rfl)
  rw [lg_entry_eq]
  generalize (lg_sl ([.int p0]) ++ List.replicate (1 - (lg_sl ([.int p0])).length) Slot.unset).toArray = ls at hl ⊢
  have hl : lv_has ls 1 [(0, .int p0)] := hl
  rw [fn_Bo_isWorker] at hf
  refine lv_iload_n hx hb d_Bo_isWorker_0 rfl (lv_at hl 0 rfl) ?_
  refine lv_iconst (v := 0) hx hb d_Bo_isWorker_1 (by decide) ?_
  refine lv_iconst (v := 5) hx hb d_Bo_isWorker_2 (by decide) ?_
  obtain ⟨r_3, σ_1, hc_2, hf⟩ := gx_bde hf
  refine gx_go (va_runS (As := [.int p0, .int ((0 : Int32)), .int ((5 : Int32))]) (rest := []) G.1 (ct_Bo_within l D dA adr A hA N p0 ((0 : Int32)) ((5 : Int32)) σ r_3 σ_1 hc_2) (cwS 3 ht gi_Bo_45 rfl rfl rfl (by decide +kernel) ⟨Nat.le_of_ble_eq_true rfl, Nat.le_of_ble_eq_true rfl⟩) (gx_pre G hI) rfl rfl hl.1 rfl (lv_room (Nat.le_of_ble_eq_true rfl)) d_Bo_isWorker_3 ⟨Nat.zero_le _, Nat.zero_le _⟩) hI (st1 := [.int r_3]) rfl (fun H locs hI => ?_)
  obtain ⟨hb_4, hf⟩ := gx_gd hf
  cases hf
  exact W.zret hx hb hr (gx_nb hb_4) (gx_F hI) hI.2.2.2 d_Bo_isWorker_6
def fn_Bo_numberOrNone (N : Nat) (x0 : Option Nat) (σ : gx_M) : Option (Int32 × gx_M) := gx_mt x0 (some ((-4 : Int32), σ)) (fun o_1 => if 42 ≤ o_1 ∧ o_1 < 722 then (some (σ o_1 0, σ)) else none)
set_option maxHeartbeats 4000000 in
set_option maxRecDepth 100000 in
theorem ct_Bo_numberOrNone (l : Launch) (D : va_G) (dA : Nat → ClassId) (adr : Nat → Nat) (A : Nat → Prop) (hA : gx_A A adr) (N : Nat) (x0 : Option Nat) (σ : gx_M) (r : Int32) (σ' : gx_M) (hf : fn_Bo_numberOrNone N x0 σ = some (r, σ')) : Met l y_Bo_numberOrNone w_Bo_numberOrNone rm_Bo_numberOrNone (gx_Pc D dA adr σ [va_rf (Option.map adr x0)]) (gx_Q D dA adr A (some (.int r)) σ') 0 0 A := by
  refine Met.ofW (cc := b_Bo_numberOrNone) (maxL := 1) (ret := some .int) (by decide) rfl ?_
  intro p e s m args below meth c s₁ B hml hv
  obtain ⟨rfl, hP, hK⟩ := hv
  have hx := B.exec
  have hb := B.bytes
  have hr := B.returns
  have hlocks := B.notSynchronized
  have ht : ∀ w ∈ gx_tb, w.before _ s = true := fun w h => atoms_spec (ws := w_Bo_numberOrNone) B.pre w (List.mem_cons_of_mem _ h)
  have hown : s.vm.findClass R_Bo = some m.cls := findClass_of_methodNamed B.named
  have G : gx_G p m c b_Bo_numberOrNone 1 s _ gx_tb R_Bo D dA := ⟨⟨hx, hb, hml, hown, ht⟩, hK⟩
  have hI : gx_I D dA adr A s.heap σ s.heap [] := ⟨hP, va_S.rf⟩
  have hl := lv_entry ([va_rf (Option.map adr x0)]) (n := 1) (by cases x0 <;> exact Nat.le_of_ble_eq_true rfl)
  rw [lg_entry_eq]
  generalize (lg_sl ([va_rf (Option.map adr x0)]) ++ List.replicate (1 - (lg_sl ([va_rf (Option.map adr x0)])).length) Slot.unset).toArray = ls at hl ⊢
  have hl : lv_has ls 1 [(0, va_rf (Option.map adr x0))] := hl
  rw [fn_Bo_numberOrNone] at hf
  rcases x0 with _ | o_1
  · replace hf := gx_mtn hf
    refine lv_aload_nN hx hb d_Bo_numberOrNone_0 rfl (lv_at hl 0 rfl) ?_
    refine lv_ifnonnullN hx hb d_Bo_numberOrNone_1 ?_
    refine lv_bipush (v := (-4)) hx hb d_Bo_numberOrNone_4 (by decide) ?_
    refine lv_goto (tgt := 13) hx hb d_Bo_numberOrNone_6 (by decide) ?_
    cases hf
    exact W.iret hx hb hr (gx_F hI) hI.2.2.2 d_Bo_numberOrNone_13
  · replace hf := gx_mts hf
    obtain ⟨hg_2, hf⟩ := gx_gd hf
    refine lv_aload_n hx hb d_Bo_numberOrNone_0 rfl (lv_at hl 0 rfl) ?_
    refine lv_ifnonnull (tgt := 9) hx hb d_Bo_numberOrNone_1 (by decide) ?_
    refine lv_aload_n hx hb d_Bo_numberOrNone_9 rfl (lv_at hl 0 rfl) ?_
    refine gx_getI G hI cl_Jb (gx_ci_j hg_2) 0 (by decide) (gx_rf_j hg_2 0) fl_Bo_83 d_Bo_numberOrNone_10 ?_
    cases hf
    exact W.iret hx hb hr (gx_F hI) hI.2.2.2 d_Bo_numberOrNone_13
def fn_Bo_isOpen (N : Nat) (p0 : Int32) (σ : gx_M) : Option (Int32 × gx_M) := if 0 ≤ p0 ∧ p0 < 4 then (gx_bd (fn_Qu_canGive N (gx_el 1 p0.toNatClampNeg) σ) (fun r_4 σ_2 => if r_4 = 0 then (some ((0 : Int32), σ_2)) else (gx_bd (fn_Ro_nextInLine N 24 p0 none σ_2) (fun x_8 σ_6 => gx_mt x_8 (some ((0 : Int32), σ_6)) (fun o_9 => if 42 ≤ o_9 ∧ o_9 < 722 then (some ((1 : Int32), σ_6)) else none))))) else none
set_option maxHeartbeats 4000000 in
set_option maxRecDepth 100000 in
theorem ct_Bo_isOpen (l : Launch) (D : va_G) (dA : Nat → ClassId) (adr : Nat → Nat) (A : Nat → Prop) (hA : gx_A A adr) (N : Nat) (p0 : Int32) (σ : gx_M) (r : Int32) (σ' : gx_M) (hf : fn_Bo_isOpen N p0 σ = some (r, σ')) : Met l y_Bo_isOpen w_Bo_isOpen rm_Bo_isOpen (gx_Pc D dA adr σ [.ref (adr 0), .int p0]) (gx_Q D dA adr A (some (.int r)) σ') 0 0 A := by
  refine Met.ofW (cc := b_Bo_isOpen) (maxL := 2) (ret := some .boolean) (by decide) rfl ?_
  intro p e s m args below meth c s₁ B hml hv
  obtain ⟨rfl, hP, hK⟩ := hv
  have hx := B.exec
  have hb := B.bytes
  have hr := B.returns
  have hlocks := B.notSynchronized
  have ht : ∀ w ∈ gx_tb, w.before _ s = true := fun w h => atoms_spec (ws := w_Bo_isOpen) B.pre w (List.mem_cons_of_mem _ h)
  have hown : s.vm.findClass R_Bo = some m.cls := findClass_of_methodNamed B.named
  have G : gx_G p m c b_Bo_isOpen 2 s _ gx_tb R_Bo D dA := ⟨⟨hx, hb, hml, hown, ht⟩, hK⟩
  have hI : gx_I D dA adr A s.heap σ s.heap [] := ⟨hP, va_S.rf⟩
  have hl := lv_entry ([.ref (adr 0), .int p0]) (n := 2) (Nat.le_of_ble_eq_true rfl)
  rw [lg_entry_eq]
  generalize (lg_sl ([.ref (adr 0), .int p0]) ++ List.replicate (2 - (lg_sl ([.ref (adr 0), .int p0])).length) Slot.unset).toArray = ls at hl ⊢
  have hl : lv_has ls 2 [(0, .ref (adr 0)), (1, .int p0)] := hl
  rw [fn_Bo_isOpen] at hf
  refine lv_aload_n hx hb d_Bo_isOpen_0 rfl (lv_at hl 0 rfl) ?_
  refine gx_getR (o' := 1) G hI cl_Bo (by decide) 1 (by decide) (by decide) fl_Bo_15 d_Bo_isOpen_1 ?_
  refine lv_iload_n hx hb d_Bo_isOpen_4 rfl (lv_at hl 1 rfl) ?_
  obtain ⟨hi_1, hf⟩ := gx_gd hf
  refine gx_aldQ G hI hi_1 d_Bo_isOpen_5 ?_
  obtain ⟨r_4, σ_2, hc_3, hf⟩ := gx_bde hf
  refine gx_go (va_runV (As := []) (rest := []) G.1 (ct_Qu_canGive l D dA adr A hA N (gx_el 1 p0.toNatClampNeg) σ r_4 σ_2 hc_3) (cwV 0 ht gi_Bo_188 rfl rfl rfl (by decide +kernel) ⟨Nat.le_of_ble_eq_true rfl, Nat.le_of_ble_eq_true rfl⟩) (gx_preV G hI cl_Qu (gx_ci_q (gx_el_q hi_1))) rfl rfl hl.1 rfl (lv_room (Nat.le_of_ble_eq_true rfl)) d_Bo_isOpen_6 ⟨Nat.zero_le _, Nat.zero_le _⟩) hI (st1 := [.int r_4]) rfl (fun H locs hI => ?_)
  refine lv_if_eq (tgt := 28) hx hb d_Bo_isOpen_9 (by decide) (fun c_5 => ?_) (fun c_5 => ?_)
  · replace hf := (if_pos c_5).symm.trans hf
    refine lv_iconst (v := 0) hx hb d_Bo_isOpen_28 (by decide) ?_
    cases hf
    exact W.zret (v := (0 : Int32)) hx hb hr (by decide) (gx_F hI) hI.2.2.2 d_Bo_isOpen_29
  · replace hf := (if_neg c_5).symm.trans hf
    refine lv_aload_n hx hb d_Bo_isOpen_12 rfl (lv_at hl 0 rfl) ?_
    refine gx_getR (o' := 24) G hI cl_Bo (by decide) 2 (by decide) (by decide) fl_Bo_23 d_Bo_isOpen_13 ?_
    refine lv_iload_n hx hb d_Bo_isOpen_16 rfl (lv_at hl 1 rfl) ?_
    refine lv_null hx hb d_Bo_isOpen_17 ?_
    obtain ⟨x_8, σ_6, hc_7, hf⟩ := gx_bde hf
    rcases x_8 with _ | o_9
    · replace hf := gx_mtn hf
      refine gx_go (va_runV (As := [.int p0, .null]) (rest := []) G.1 (ct_Ro_nextInLine l D dA adr A hA N 24 p0 none σ_2 none σ_6 hc_7) (cwV 2 ht gi_Bo_123 rfl rfl rfl (by decide +kernel) ⟨Nat.le_of_ble_eq_true rfl, Nat.le_of_ble_eq_true rfl⟩) (gx_preV G hI cl_Ro (gx_ci_r (by decide))) rfl rfl hl.1 rfl (lv_room (Nat.le_of_ble_eq_true rfl)) d_Bo_isOpen_18 ⟨Nat.zero_le _, Nat.zero_le _⟩) hI (st1 := [.null]) rfl (fun H locs hI => ?_)
      refine lv_ifnullN (tgt := 28) hx hb d_Bo_isOpen_21 (by decide) ?_
      refine lv_iconst (v := 0) hx hb d_Bo_isOpen_28 (by decide) ?_
      cases hf
      exact W.zret (v := (0 : Int32)) hx hb hr (by decide) (gx_F hI) hI.2.2.2 d_Bo_isOpen_29
    · replace hf := gx_mts hf
      obtain ⟨hg_10, hf⟩ := gx_gd hf
      refine gx_go (va_runV (As := [.int p0, .null]) (rest := []) G.1 (ct_Ro_nextInLine l D dA adr A hA N 24 p0 none σ_2 (some o_9) σ_6 hc_7) (cwV 2 ht gi_Bo_123 rfl rfl rfl (by decide +kernel) ⟨Nat.le_of_ble_eq_true rfl, Nat.le_of_ble_eq_true rfl⟩) (gx_preV G hI cl_Ro (gx_ci_r (by decide))) rfl rfl hl.1 rfl (lv_room (Nat.le_of_ble_eq_true rfl)) d_Bo_isOpen_18 ⟨Nat.zero_le _, Nat.zero_le _⟩) hI (st1 := [.ref (adr o_9)]) rfl (fun H locs hI => ?_)
      refine lv_ifnull hx hb d_Bo_isOpen_21 ?_
      refine lv_iconst (v := 1) hx hb d_Bo_isOpen_24 (by decide) ?_
      refine lv_goto (tgt := 29) hx hb d_Bo_isOpen_25 (by decide) ?_
      cases hf
      exact W.zret (v := (1 : Int32)) hx hb hr (by decide) (gx_F hI) hI.2.2.2 d_Bo_isOpen_29
def fn_Bo_firstOpenQueue_L2 (N : Nat) : Nat → Int32 → gx_M → Option (Int32 × gx_M)
  | 0, _, _ => none
  | n + 1, v1, σ => if ((4 : Int32)) ≤ v1 then (some ((-4 : Int32), σ)) else (gx_bd (fn_Bo_isOpen N v1 σ) (fun r_4 σ_2 => if r_4 = 0 then (fn_Bo_firstOpenQueue_L2 N n (v1 + 1) σ_2) else (some (v1, σ_2))))
def fn_Bo_firstOpenQueue (N : Nat) (σ : gx_M) : Option (Int32 × gx_M) := fn_Bo_firstOpenQueue_L2 N N ((0 : Int32)) σ
set_option maxHeartbeats 4000000 in
set_option maxRecDepth 100000 in
theorem wl_Bo_firstOpenQueue_L2 {p : Program} {l : Launch} {e : Env} {s : State} {m : MethodId} {args : Array Value} {below : List Frame} {meth : Method} {c : Code} {D : va_G} {dA : Nat → ClassId} {adr : Nat → Nat} {A : Nat → Prop} (G : gx_G p m c b_Bo_firstOpenQueue 2 s args gx_tb R_Bo D dA) (hr : meth.sig.returnType = some .int) (hlocks : meth.locks = false) (hA : gx_A A adr) (N : Nat) (res : Int32 × gx_M) : ∀ (n : Nat) (v1 : Int32) (σ : gx_M) (H : Heap) (locs : List Loc) (ls : Array Slot), fn_Bo_firstOpenQueue_L2 N n v1 σ = some res → gx_I D dA adr A s.heap σ H locs → lv_has ls 2 [(1, .int v1), (0, .ref (adr 0))] → W p l e (headSpec w_Bo_firstOpenQueue rm_Bo_firstOpenQueue).room s m args below meth c H locs 0 0 (MQ below (gx_Q D dA adr A (some (.int res.1)) res.2) args s 0 0 A) (F0 m 2 ls []) := by
  obtain ⟨⟨hx, hb, hml, hown, ht⟩, hK⟩ := id G
  intro n
  induction n with
  | zero =>
    intro v1 σ H locs ls hf
    cases hf
  | succ n ih =>
    intro v1 σ H locs ls hf hI hl
    rw [fn_Bo_firstOpenQueue_L2] at hf
    refine lv_iload_n hx hb d_Bo_firstOpenQueue_2 rfl (lv_at hl 0 rfl) ?_
    refine lv_iconst (v := 4) hx hb d_Bo_firstOpenQueue_3 (by decide) ?_
    refine lv_icmp_ge (tgt := 23) hx hb d_Bo_firstOpenQueue_4 (by decide) (fun c_1 => ?_) (fun c_1 => ?_)
    · replace hf := (if_pos c_1).symm.trans hf
      refine lv_bipush (v := (-4)) hx hb d_Bo_firstOpenQueue_23 (by decide) ?_
      cases hf
      exact W.iret hx hb hr (gx_F hI) hI.2.2.2 d_Bo_firstOpenQueue_25
    · replace hf := (if_neg c_1).symm.trans hf
      refine lv_aload_n hx hb d_Bo_firstOpenQueue_7 rfl (lv_at hl 1 rfl) ?_
      refine lv_iload_n hx hb d_Bo_firstOpenQueue_8 rfl (lv_at hl 0 rfl) ?_
      obtain ⟨r_4, σ_2, hc_3, hf⟩ := gx_bde hf
      refine gx_go (va_runV (As := [.int v1]) (rest := []) G.1 (ct_Bo_isOpen l D dA adr A hA N v1 σ r_4 σ_2 hc_3) (cwV 1 ht gi_Bo_191 rfl rfl rfl (by decide +kernel) ⟨Nat.le_of_ble_eq_true rfl, Nat.le_of_ble_eq_true rfl⟩) (gx_preV G hI cl_Bo (by decide)) rfl rfl hl.1 rfl (lv_room (Nat.le_of_ble_eq_true rfl)) d_Bo_firstOpenQueue_9 ⟨Nat.zero_le _, Nat.zero_le _⟩) hI (st1 := [.int r_4]) rfl (fun H locs hI => ?_)
      refine lv_if_eq (tgt := 17) hx hb d_Bo_firstOpenQueue_12 (by decide) (fun c_5 => ?_) (fun c_5 => ?_)
      · replace hf := (if_pos c_5).symm.trans hf
        refine lv_iinc (v := v1 + 1) (lv' := [(1, .int (v1 + 1)), (0, .ref (adr 0))]) hx hb d_Bo_firstOpenQueue_17 hl (k := 0) rfl rfl (by decide) rfl (fun ls hl => ?_)
        refine lv_goto (tgt := 2) hx hb d_Bo_firstOpenQueue_20 (by decide) ?_
        exact ih (v1 + 1) σ_2 H locs ls hf hI (lv_sub hl [0, 1] rfl)
      · replace hf := (if_neg c_5).symm.trans hf
        refine lv_iload_n hx hb d_Bo_firstOpenQueue_15 rfl (lv_at hl 0 rfl) ?_
        cases hf
        exact W.iret hx hb hr (gx_F hI) hI.2.2.2 d_Bo_firstOpenQueue_16
set_option maxHeartbeats 4000000 in
set_option maxRecDepth 100000 in
theorem ct_Bo_firstOpenQueue (l : Launch) (D : va_G) (dA : Nat → ClassId) (adr : Nat → Nat) (A : Nat → Prop) (hA : gx_A A adr) (N : Nat) (σ : gx_M) (r : Int32) (σ' : gx_M) (hf : fn_Bo_firstOpenQueue N σ = some (r, σ')) : Met l y_Bo_firstOpenQueue w_Bo_firstOpenQueue rm_Bo_firstOpenQueue (gx_Pc D dA adr σ [.ref (adr 0)]) (gx_Q D dA adr A (some (.int r)) σ') 0 0 A := by
  refine Met.ofW (cc := b_Bo_firstOpenQueue) (maxL := 2) (ret := some .int) (by decide) rfl ?_
  intro p e s m args below meth c s₁ B hml hv
  obtain ⟨rfl, hP, hK⟩ := hv
  have hx := B.exec
  have hb := B.bytes
  have hr := B.returns
  have hlocks := B.notSynchronized
  have ht : ∀ w ∈ gx_tb, w.before _ s = true := fun w h => atoms_spec (ws := w_Bo_firstOpenQueue) B.pre w (List.mem_cons_of_mem _ h)
  have hown : s.vm.findClass R_Bo = some m.cls := findClass_of_methodNamed B.named
  have G : gx_G p m c b_Bo_firstOpenQueue 2 s _ gx_tb R_Bo D dA := ⟨⟨hx, hb, hml, hown, ht⟩, hK⟩
  have hI : gx_I D dA adr A s.heap σ s.heap [] := ⟨hP, va_S.rf⟩
  have hl := lv_entry ([.ref (adr 0)]) (n := 2) (Nat.le_of_ble_eq_true rfl)
  rw [lg_entry_eq]
  generalize (lg_sl ([.ref (adr 0)]) ++ List.replicate (2 - (lg_sl ([.ref (adr 0)])).length) Slot.unset).toArray = ls at hl ⊢
  have hl : lv_has ls 2 [(0, .ref (adr 0))] := hl
  rw [fn_Bo_firstOpenQueue] at hf
  refine lv_iconst (v := 0) hx hb d_Bo_firstOpenQueue_0 (by decide) ?_
  refine lv_istore_n (i := 1) (lv' := [(1, .int ((0 : Int32))), (0, .ref (adr 0))]) hx hb d_Bo_firstOpenQueue_1 rfl hl (by decide) rfl (fun ls hl => ?_)
  exact wl_Bo_firstOpenQueue_L2 G hr hlocks hA N _ N ((0 : Int32)) σ _ _ ls hf hI (lv_sub hl [0, 1] rfl)
def fn_Bo_openQueueByCredit_L7 (N : Nat) : Nat → Int32 → Int32 → Int32 → gx_M → Option (Int32 × gx_M)
  | 0, _, _, _, _ => none
  | n + 1, v3, v2, v1, σ => if ((4 : Int32)) ≤ v3 then (if v1 = ((-4 : Int32)) then (some (v1, σ)) else (if 0 ≤ v1 ∧ v1 < 4 then (gx_lt (gx_up σ (gx_el 1 v1.toNatClampNeg) 1 ((σ (gx_el 1 v1.toNatClampNeg) 1) - v2)) (fun σ_4 => some (v1, σ_4))) else none)) else (gx_bd (fn_Bo_isOpen N v3 σ) (fun r_7 σ_5 => if r_7 = 0 then (fn_Bo_openQueueByCredit_L7 N n (v3 + 1) v2 v1 σ_5) else (if 0 ≤ v3 ∧ v3 < 4 then (if 0 ≤ v3 ∧ v3 < 4 then (gx_lt (gx_up σ_5 (gx_el 1 v3.toNatClampNeg) 1 ((σ_5 (gx_el 1 v3.toNatClampNeg) 1) + (σ_5 (gx_el 1 v3.toNatClampNeg) 0))) (fun σ_11 => if 0 ≤ v3 ∧ v3 < 4 then (if v1 = ((-4 : Int32)) then (fn_Bo_openQueueByCredit_L7 N n (v3 + 1) (v2 + (σ_11 (gx_el 1 v3.toNatClampNeg) 0)) v3 σ_11) else (if 0 ≤ v3 ∧ v3 < 4 then (if 0 ≤ v1 ∧ v1 < 4 then (if (σ_11 (gx_el 1 v3.toNatClampNeg) 1) ≤ (σ_11 (gx_el 1 v1.toNatClampNeg) 1) then (fn_Bo_openQueueByCredit_L7 N n (v3 + 1) (v2 + (σ_11 (gx_el 1 v3.toNatClampNeg) 0)) v1 σ_11) else (fn_Bo_openQueueByCredit_L7 N n (v3 + 1) (v2 + (σ_11 (gx_el 1 v3.toNatClampNeg) 0)) v3 σ_11)) else none) else none)) else none)) else none) else none)))
def fn_Bo_openQueueByCredit (N : Nat) (σ : gx_M) : Option (Int32 × gx_M) := fn_Bo_openQueueByCredit_L7 N N ((0 : Int32)) ((0 : Int32)) ((-4 : Int32)) σ
set_option maxHeartbeats 4000000 in
set_option maxRecDepth 100000 in
theorem wl_Bo_openQueueByCredit_L7 {p : Program} {l : Launch} {e : Env} {s : State} {m : MethodId} {args : Array Value} {below : List Frame} {meth : Method} {c : Code} {D : va_G} {dA : Nat → ClassId} {adr : Nat → Nat} {A : Nat → Prop} (G : gx_G p m c b_Bo_openQueueByCredit 4 s args gx_tb R_Bo D dA) (hr : meth.sig.returnType = some .int) (hlocks : meth.locks = false) (hA : gx_A A adr) (N : Nat) (res : Int32 × gx_M) : ∀ (n : Nat) (v3 : Int32) (v2 : Int32) (v1 : Int32) (σ : gx_M) (H : Heap) (locs : List Loc) (ls : Array Slot), fn_Bo_openQueueByCredit_L7 N n v3 v2 v1 σ = some res → gx_I D dA adr A s.heap σ H locs → lv_has ls 4 [(3, .int v3), (2, .int v2), (1, .int v1), (0, .ref (adr 0))] → W p l e (headSpec w_Bo_openQueueByCredit rm_Bo_openQueueByCredit).room s m args below meth c H locs 0 0 (MQ below (gx_Q D dA adr A (some (.int res.1)) res.2) args s 0 0 A) (F0 m 7 ls []) := by
  obtain ⟨⟨hx, hb, hml, hown, ht⟩, hK⟩ := id G
  intro n
  induction n with
  | zero =>
    intro v3 v2 v1 σ H locs ls hf
    cases hf
  | succ n ih =>
    intro v3 v2 v1 σ H locs ls hf hI hl
    rw [fn_Bo_openQueueByCredit_L7] at hf
    refine lv_iload_n hx hb d_Bo_openQueueByCredit_7 rfl (lv_at hl 0 rfl) ?_
    refine lv_iconst (v := 4) hx hb d_Bo_openQueueByCredit_8 (by decide) ?_
    refine lv_icmp_ge (tgt := 90) hx hb d_Bo_openQueueByCredit_9 (by decide) (fun c_1 => ?_) (fun c_1 => ?_)
    · replace hf := (if_pos c_1).symm.trans hf
      refine lv_iload_n hx hb d_Bo_openQueueByCredit_90 rfl (lv_at hl 2 rfl) ?_
      refine lv_bipush (v := (-4)) hx hb d_Bo_openQueueByCredit_91 (by decide) ?_
      refine lv_icmp_eq (tgt := 111) hx hb d_Bo_openQueueByCredit_93 (by decide) (fun c_2 => ?_) (fun c_2 => ?_)
      · replace hf := (if_pos c_2).symm.trans hf
        refine lv_iload_n hx hb d_Bo_openQueueByCredit_111 rfl (lv_at hl 2 rfl) ?_
        cases hf
        exact W.iret hx hb hr (gx_F hI) hI.2.2.2 d_Bo_openQueueByCredit_112
      · replace hf := (if_neg c_2).symm.trans hf
        refine lv_aload_n hx hb d_Bo_openQueueByCredit_96 rfl (lv_at hl 3 rfl) ?_
        refine gx_getR (o' := 1) G hI cl_Bo (by decide) 1 (by decide) (by decide) fl_Bo_15 d_Bo_openQueueByCredit_97 ?_
        refine lv_iload_n hx hb d_Bo_openQueueByCredit_100 rfl (lv_at hl 2 rfl) ?_
        obtain ⟨hi_3, hf⟩ := gx_gd hf
        refine gx_aldQ G hI hi_3 d_Bo_openQueueByCredit_101 ?_
        refine lv_dup hx hb d_Bo_openQueueByCredit_102 rfl ?_
        refine gx_getI G hI cl_Qu (gx_ci_q (gx_el_q hi_3)) 1 (by decide) (gx_rf_q (gx_el_q hi_3) 1) fl_Bo_194 d_Bo_openQueueByCredit_103 ?_
        refine lv_iload_n hx hb d_Bo_openQueueByCredit_106 rfl (lv_at hl 1 rfl) ?_
        refine lv_isub hx hb d_Bo_openQueueByCredit_107 ?_
        obtain ⟨σ_4, eσ_4, hf⟩ := gx_lte hf
        refine gx_put G hI hA cl_Qu (gx_ci_q (gx_el_q hi_3)) 1 (by decide) (gx_rf_q (gx_el_q hi_3) 1) fl_Bo_194 rfl rfl rfl eσ_4 d_Bo_openQueueByCredit_108 (fun H locs hI => ?_)
        refine lv_iload_n hx hb d_Bo_openQueueByCredit_111 rfl (lv_at hl 2 rfl) ?_
        cases hf
        exact W.iret hx hb hr (gx_F hI) hI.2.2.2 d_Bo_openQueueByCredit_112
    · replace hf := (if_neg c_1).symm.trans hf
      refine lv_aload_n hx hb d_Bo_openQueueByCredit_12 rfl (lv_at hl 3 rfl) ?_
      refine lv_iload_n hx hb d_Bo_openQueueByCredit_13 rfl (lv_at hl 0 rfl) ?_
      obtain ⟨r_7, σ_5, hc_6, hf⟩ := gx_bde hf
      refine gx_go (va_runV (As := [.int v3]) (rest := []) G.1 (ct_Bo_isOpen l D dA adr A hA N v3 σ r_7 σ_5 hc_6) (cwV 1 ht gi_Bo_191 rfl rfl rfl (by decide +kernel) ⟨Nat.le_of_ble_eq_true rfl, Nat.le_of_ble_eq_true rfl⟩) (gx_preV G hI cl_Bo (by decide)) rfl rfl hl.1 rfl (lv_room (Nat.le_of_ble_eq_true rfl)) d_Bo_openQueueByCredit_14 ⟨Nat.zero_le _, Nat.zero_le _⟩) hI (st1 := [.int r_7]) rfl (fun H locs hI => ?_)
      refine lv_if_eq (tgt := 84) hx hb d_Bo_openQueueByCredit_17 (by decide) (fun c_8 => ?_) (fun c_8 => ?_)
      · replace hf := (if_pos c_8).symm.trans hf
        refine lv_iinc (v := v3 + 1) (lv' := [(3, .int (v3 + 1)), (2, .int v2), (1, .int v1), (0, .ref (adr 0))]) hx hb d_Bo_openQueueByCredit_84 hl (k := 0) rfl rfl (by decide) rfl (fun ls hl => ?_)
        refine lv_goto (tgt := 7) hx hb d_Bo_openQueueByCredit_87 (by decide) ?_
        exact ih (v3 + 1) v2 v1 σ_5 H locs ls hf hI (lv_sub hl [0, 1, 2, 3] rfl)
      · replace hf := (if_neg c_8).symm.trans hf
        refine lv_aload_n hx hb d_Bo_openQueueByCredit_20 rfl (lv_at hl 3 rfl) ?_
        refine gx_getR (o' := 1) G hI cl_Bo (by decide) 1 (by decide) (by decide) fl_Bo_15 d_Bo_openQueueByCredit_21 ?_
        refine lv_iload_n hx hb d_Bo_openQueueByCredit_24 rfl (lv_at hl 0 rfl) ?_
        obtain ⟨hi_9, hf⟩ := gx_gd hf
        refine gx_aldQ G hI hi_9 d_Bo_openQueueByCredit_25 ?_
        refine lv_dup hx hb d_Bo_openQueueByCredit_26 rfl ?_
        refine gx_getI G hI cl_Qu (gx_ci_q (gx_el_q hi_9)) 1 (by decide) (gx_rf_q (gx_el_q hi_9) 1) fl_Bo_194 d_Bo_openQueueByCredit_27 ?_
        refine lv_aload_n hx hb d_Bo_openQueueByCredit_30 rfl (lv_at hl 3 rfl) ?_
        refine gx_getR (o' := 1) G hI cl_Bo (by decide) 1 (by decide) (by decide) fl_Bo_15 d_Bo_openQueueByCredit_31 ?_
        refine lv_iload_n hx hb d_Bo_openQueueByCredit_34 rfl (lv_at hl 0 rfl) ?_
        obtain ⟨hi_10, hf⟩ := gx_gd hf
        refine gx_aldQ G hI hi_10 d_Bo_openQueueByCredit_35 ?_
        refine gx_getI G hI cl_Qu (gx_ci_q (gx_el_q hi_10)) 0 (by decide) (gx_rf_q (gx_el_q hi_10) 0) fl_Bo_197 d_Bo_openQueueByCredit_36 ?_
        refine lv_iadd hx hb d_Bo_openQueueByCredit_39 ?_
        obtain ⟨σ_11, eσ_11, hf⟩ := gx_lte hf
        refine gx_put G hI hA cl_Qu (gx_ci_q (gx_el_q hi_9)) 1 (by decide) (gx_rf_q (gx_el_q hi_9) 1) fl_Bo_194 rfl rfl rfl eσ_11 d_Bo_openQueueByCredit_40 (fun H locs hI => ?_)
        refine lv_iload_n hx hb d_Bo_openQueueByCredit_43 rfl (lv_at hl 1 rfl) ?_
        refine lv_aload_n hx hb d_Bo_openQueueByCredit_44 rfl (lv_at hl 3 rfl) ?_
        refine gx_getR (o' := 1) G hI cl_Bo (by decide) 1 (by decide) (by decide) fl_Bo_15 d_Bo_openQueueByCredit_45 ?_
        refine lv_iload_n hx hb d_Bo_openQueueByCredit_48 rfl (lv_at hl 0 rfl) ?_
        obtain ⟨hi_12, hf⟩ := gx_gd hf
        refine gx_aldQ G hI hi_12 d_Bo_openQueueByCredit_49 ?_
        refine gx_getI G hI cl_Qu (gx_ci_q (gx_el_q hi_12)) 0 (by decide) (gx_rf_q (gx_el_q hi_12) 0) fl_Bo_197 d_Bo_openQueueByCredit_50 ?_
        refine lv_iadd hx hb d_Bo_openQueueByCredit_53 ?_
        refine lv_istore_n (i := 2) (lv' := [(2, .int (v2 + (σ_11 (gx_el 1 v3.toNatClampNeg) 0))), (3, .int v3), (1, .int v1), (0, .ref (adr 0))]) hx hb d_Bo_openQueueByCredit_54 rfl hl (by decide) rfl (fun ls hl => ?_)
        refine lv_iload_n hx hb d_Bo_openQueueByCredit_55 rfl (lv_at hl 2 rfl) ?_
        refine lv_bipush (v := (-4)) hx hb d_Bo_openQueueByCredit_56 (by decide) ?_
        refine lv_icmp_eq (tgt := 82) hx hb d_Bo_openQueueByCredit_58 (by decide) (fun c_13 => ?_) (fun c_13 => ?_)
        · replace hf := (if_pos c_13).symm.trans hf
          refine lv_iload_n hx hb d_Bo_openQueueByCredit_82 rfl (lv_at hl 1 rfl) ?_
          refine lv_istore_n (i := 1) (lv' := [(1, .int v3), (2, .int (v2 + (σ_11 (gx_el 1 v3.toNatClampNeg) 0))), (3, .int v3), (0, .ref (adr 0))]) hx hb d_Bo_openQueueByCredit_83 rfl hl (by decide) rfl (fun ls hl => ?_)
          refine lv_iinc (v := v3 + 1) (lv' := [(3, .int (v3 + 1)), (1, .int v3), (2, .int (v2 + (σ_11 (gx_el 1 v3.toNatClampNeg) 0))), (0, .ref (adr 0))]) hx hb d_Bo_openQueueByCredit_84 hl (k := 2) rfl rfl (by decide) rfl (fun ls hl => ?_)
          refine lv_goto (tgt := 7) hx hb d_Bo_openQueueByCredit_87 (by decide) ?_
          exact ih (v3 + 1) (v2 + (σ_11 (gx_el 1 v3.toNatClampNeg) 0)) v3 σ_11 H locs ls hf hI (lv_sub hl [0, 2, 1, 3] rfl)
        · replace hf := (if_neg c_13).symm.trans hf
          refine lv_aload_n hx hb d_Bo_openQueueByCredit_61 rfl (lv_at hl 3 rfl) ?_
          refine gx_getR (o' := 1) G hI cl_Bo (by decide) 1 (by decide) (by decide) fl_Bo_15 d_Bo_openQueueByCredit_62 ?_
          refine lv_iload_n hx hb d_Bo_openQueueByCredit_65 rfl (lv_at hl 1 rfl) ?_
          obtain ⟨hi_14, hf⟩ := gx_gd hf
          refine gx_aldQ G hI hi_14 d_Bo_openQueueByCredit_66 ?_
          refine gx_getI G hI cl_Qu (gx_ci_q (gx_el_q hi_14)) 1 (by decide) (gx_rf_q (gx_el_q hi_14) 1) fl_Bo_194 d_Bo_openQueueByCredit_67 ?_
          refine lv_aload_n hx hb d_Bo_openQueueByCredit_70 rfl (lv_at hl 3 rfl) ?_
          refine gx_getR (o' := 1) G hI cl_Bo (by decide) 1 (by decide) (by decide) fl_Bo_15 d_Bo_openQueueByCredit_71 ?_
          refine lv_iload_n hx hb d_Bo_openQueueByCredit_74 rfl (lv_at hl 2 rfl) ?_
          obtain ⟨hi_15, hf⟩ := gx_gd hf
          refine gx_aldQ G hI hi_15 d_Bo_openQueueByCredit_75 ?_
          refine gx_getI G hI cl_Qu (gx_ci_q (gx_el_q hi_15)) 1 (by decide) (gx_rf_q (gx_el_q hi_15) 1) fl_Bo_194 d_Bo_openQueueByCredit_76 ?_
          refine lv_icmp_le (tgt := 84) hx hb d_Bo_openQueueByCredit_79 (by decide) (fun c_16 => ?_) (fun c_16 => ?_)
          · replace hf := (if_pos c_16).symm.trans hf
            refine lv_iinc (v := v3 + 1) (lv' := [(3, .int (v3 + 1)), (2, .int (v2 + (σ_11 (gx_el 1 v3.toNatClampNeg) 0))), (1, .int v1), (0, .ref (adr 0))]) hx hb d_Bo_openQueueByCredit_84 hl (k := 1) rfl rfl (by decide) rfl (fun ls hl => ?_)
            refine lv_goto (tgt := 7) hx hb d_Bo_openQueueByCredit_87 (by decide) ?_
            exact ih (v3 + 1) (v2 + (σ_11 (gx_el 1 v3.toNatClampNeg) 0)) v1 σ_11 H locs ls hf hI (lv_sub hl [0, 1, 2, 3] rfl)
          · replace hf := (if_neg c_16).symm.trans hf
            refine lv_iload_n hx hb d_Bo_openQueueByCredit_82 rfl (lv_at hl 1 rfl) ?_
            refine lv_istore_n (i := 1) (lv' := [(1, .int v3), (2, .int (v2 + (σ_11 (gx_el 1 v3.toNatClampNeg) 0))), (3, .int v3), (0, .ref (adr 0))]) hx hb d_Bo_openQueueByCredit_83 rfl hl (by decide) rfl (fun ls hl => ?_)
            refine lv_iinc (v := v3 + 1) (lv' := [(3, .int (v3 + 1)), (1, .int v3), (2, .int (v2 + (σ_11 (gx_el 1 v3.toNatClampNeg) 0))), (0, .ref (adr 0))]) hx hb d_Bo_openQueueByCredit_84 hl (k := 2) rfl rfl (by decide) rfl (fun ls hl => ?_)
            refine lv_goto (tgt := 7) hx hb d_Bo_openQueueByCredit_87 (by decide) ?_
            exact ih (v3 + 1) (v2 + (σ_11 (gx_el 1 v3.toNatClampNeg) 0)) v3 σ_11 H locs ls hf hI (lv_sub hl [0, 2, 1, 3] rfl)
set_option maxHeartbeats 4000000 in
set_option maxRecDepth 100000 in
theorem ct_Bo_openQueueByCredit (l : Launch) (D : va_G) (dA : Nat → ClassId) (adr : Nat → Nat) (A : Nat → Prop) (hA : gx_A A adr) (N : Nat) (σ : gx_M) (r : Int32) (σ' : gx_M) (hf : fn_Bo_openQueueByCredit N σ = some (r, σ')) : Met l y_Bo_openQueueByCredit w_Bo_openQueueByCredit rm_Bo_openQueueByCredit (gx_Pc D dA adr σ [.ref (adr 0)]) (gx_Q D dA adr A (some (.int r)) σ') 0 0 A := by
  refine Met.ofW (cc := b_Bo_openQueueByCredit) (maxL := 4) (ret := some .int) (by decide) rfl ?_
  intro p e s m args below meth c s₁ B hml hv
  obtain ⟨rfl, hP, hK⟩ := hv
  have hx := B.exec
  have hb := B.bytes
  have hr := B.returns
  have hlocks := B.notSynchronized
  have ht : ∀ w ∈ gx_tb, w.before _ s = true := fun w h => atoms_spec (ws := w_Bo_openQueueByCredit) B.pre w (List.mem_cons_of_mem _ h)
  have hown : s.vm.findClass R_Bo = some m.cls := findClass_of_methodNamed B.named
  have G : gx_G p m c b_Bo_openQueueByCredit 4 s _ gx_tb R_Bo D dA := ⟨⟨hx, hb, hml, hown, ht⟩, hK⟩
  have hI : gx_I D dA adr A s.heap σ s.heap [] := ⟨hP, va_S.rf⟩
  have hl := lv_entry ([.ref (adr 0)]) (n := 4) (Nat.le_of_ble_eq_true rfl)
  rw [lg_entry_eq]
  generalize (lg_sl ([.ref (adr 0)]) ++ List.replicate (4 - (lg_sl ([.ref (adr 0)])).length) Slot.unset).toArray = ls at hl ⊢
  have hl : lv_has ls 4 [(0, .ref (adr 0))] := hl
  rw [fn_Bo_openQueueByCredit] at hf
  refine lv_bipush (v := (-4)) hx hb d_Bo_openQueueByCredit_0 (by decide) ?_
  refine lv_istore_n (i := 1) (lv' := [(1, .int ((-4 : Int32))), (0, .ref (adr 0))]) hx hb d_Bo_openQueueByCredit_2 rfl hl (by decide) rfl (fun ls hl => ?_)
  refine lv_iconst (v := 0) hx hb d_Bo_openQueueByCredit_3 (by decide) ?_
  refine lv_istore_n (i := 2) (lv' := [(2, .int ((0 : Int32))), (1, .int ((-4 : Int32))), (0, .ref (adr 0))]) hx hb d_Bo_openQueueByCredit_4 rfl hl (by decide) rfl (fun ls hl => ?_)
  refine lv_iconst (v := 0) hx hb d_Bo_openQueueByCredit_5 (by decide) ?_
  refine lv_istore_n (i := 3) (lv' := [(3, .int ((0 : Int32))), (2, .int ((0 : Int32))), (1, .int ((-4 : Int32))), (0, .ref (adr 0))]) hx hb d_Bo_openQueueByCredit_6 rfl hl (by decide) rfl (fun ls hl => ?_)
  exact wl_Bo_openQueueByCredit_L7 G hr hlocks hA N _ N ((0 : Int32)) ((0 : Int32)) ((-4 : Int32)) σ _ _ ls hf hI (lv_sub hl [0, 1, 2, 3] rfl)
def fn_Bo_queue (N : Nat) (p0 : Int32) (p1 : Int32) (p2 : Int32) (p3 : Int32) (σ : gx_M) : Option (Int32 × gx_M) := gx_bd (fn_Bo_isQueue N p0 σ) (fun r_3 σ_1 => if r_3 = 0 then (some ((-1 : Int32), σ_1)) else (gx_bd (fn_Bo_within N p1 ((0 : Int32)) ((8 : Int32)) σ_1) (fun r_7 σ_5 => if r_7 = 0 then (some ((-1 : Int32), σ_5)) else (gx_bd (fn_Bo_within N p2 ((0 : Int32)) ((20 : Int32)) σ_5) (fun r_11 σ_9 => if r_11 = 0 then (some ((-1 : Int32), σ_9)) else (gx_bd (fn_Bo_within N p3 ((1 : Int32)) ((50 : Int32)) σ_9) (fun r_15 σ_13 => if r_15 = 0 then (some ((-1 : Int32), σ_13)) else (if 0 ≤ p0 ∧ p0 < 4 then (gx_bv (fn_Qu_set N (gx_el 1 p0.toNatClampNeg) p1 p2 p3 (σ_13 0 4) σ_13) (fun σ_18 => some ((0 : Int32), σ_18))) else none))))))))
set_option maxHeartbeats 4000000 in
set_option maxRecDepth 100000 in
theorem ct_Bo_queue (l : Launch) (D : va_G) (dA : Nat → ClassId) (adr : Nat → Nat) (A : Nat → Prop) (hA : gx_A A adr) (N : Nat) (p0 : Int32) (p1 : Int32) (p2 : Int32) (p3 : Int32) (σ : gx_M) (r : Int32) (σ' : gx_M) (hf : fn_Bo_queue N p0 p1 p2 p3 σ = some (r, σ')) : Met l y_Bo_queue w_Bo_queue rm_Bo_queue (gx_Pc D dA adr σ [.ref (adr 0), .int p0, .int p1, .int p2, .int p3]) (gx_Q D dA adr A (some (.int r)) σ') 0 0 A := by
  refine Met.ofW (cc := b_Bo_queue) (maxL := 5) (ret := some .int) (by decide) rfl ?_
  intro p e s m args below meth c s₁ B hml hv
  obtain ⟨rfl, hP, hK⟩ := hv
  have hx := B.exec
  have hb := B.bytes
  have hr := B.returns
  have hlocks := B.notSynchronized
  have ht : ∀ w ∈ gx_tb, w.before _ s = true := fun w h => atoms_spec (ws := w_Bo_queue) B.pre w (List.mem_cons_of_mem _ h)
  have hown : s.vm.findClass R_Bo = some m.cls := findClass_of_methodNamed B.named
  have G : gx_G p m c b_Bo_queue 5 s _ gx_tb R_Bo D dA := ⟨⟨hx, hb, hml, hown, ht⟩, hK⟩
  have hI : gx_I D dA adr A s.heap σ s.heap [] := ⟨hP, va_S.rf⟩
  have hl := lv_entry ([.ref (adr 0), .int p0, .int p1, .int p2, .int p3]) (n := 5) (Nat.le_of_ble_eq_true rfl)
  rw [lg_entry_eq]
  generalize (lg_sl ([.ref (adr 0), .int p0, .int p1, .int p2, .int p3]) ++ List.replicate (5 - (lg_sl ([.ref (adr 0), .int p0, .int p1, .int p2, .int p3])).length) Slot.unset).toArray = ls at hl ⊢
  have hl : lv_has ls 5 [(0, .ref (adr 0)), (1, .int p0), (2, .int p1), (3, .int p2), (4, .int p3)] := hl
  rw [fn_Bo_queue] at hf
  refine lv_iload_n hx hb d_Bo_queue_0 rfl (lv_at hl 1 rfl) ?_
  obtain ⟨r_3, σ_1, hc_2, hf⟩ := gx_bde hf
  refine gx_go (va_runS (As := [.int p0]) (rest := []) G.1 (ct_Bo_isQueue l D dA adr A hA N p0 σ r_3 σ_1 hc_2) (cwS 1 ht gi_Bo_41 rfl rfl rfl (by decide +kernel) ⟨Nat.le_of_ble_eq_true rfl, Nat.le_of_ble_eq_true rfl⟩) (gx_pre G hI) rfl rfl hl.1 rfl (lv_room (Nat.le_of_ble_eq_true rfl)) d_Bo_queue_1 ⟨Nat.zero_le _, Nat.zero_le _⟩) hI (st1 := [.int r_3]) rfl (fun H locs hI => ?_)
  refine lv_if_eq (tgt := 38) hx hb d_Bo_queue_4 (by decide) (fun c_4 => ?_) (fun c_4 => ?_)
  · replace hf := (if_pos c_4).symm.trans hf
    refine lv_iconst (v := (-1)) hx hb d_Bo_queue_38 (by decide) ?_
    cases hf
    exact W.iret hx hb hr (gx_F hI) hI.2.2.2 d_Bo_queue_39
  · replace hf := (if_neg c_4).symm.trans hf
    refine lv_iload_n hx hb d_Bo_queue_7 rfl (lv_at hl 2 rfl) ?_
    refine lv_iconst (v := 0) hx hb d_Bo_queue_8 (by decide) ?_
    refine lv_bipush (v := 8) hx hb d_Bo_queue_9 (by decide) ?_
    obtain ⟨r_7, σ_5, hc_6, hf⟩ := gx_bde hf
    refine gx_go (va_runS (As := [.int p1, .int ((0 : Int32)), .int ((8 : Int32))]) (rest := []) G.1 (ct_Bo_within l D dA adr A hA N p1 ((0 : Int32)) ((8 : Int32)) σ_1 r_7 σ_5 hc_6) (cwS 3 ht gi_Bo_45 rfl rfl rfl (by decide +kernel) ⟨Nat.le_of_ble_eq_true rfl, Nat.le_of_ble_eq_true rfl⟩) (gx_pre G hI) rfl rfl hl.1 rfl (lv_room (Nat.le_of_ble_eq_true rfl)) d_Bo_queue_11 ⟨Nat.zero_le _, Nat.zero_le _⟩) hI (st1 := [.int r_7]) rfl (fun H locs hI => ?_)
    refine lv_if_eq (tgt := 38) hx hb d_Bo_queue_14 (by decide) (fun c_8 => ?_) (fun c_8 => ?_)
    · replace hf := (if_pos c_8).symm.trans hf
      refine lv_iconst (v := (-1)) hx hb d_Bo_queue_38 (by decide) ?_
      cases hf
      exact W.iret hx hb hr (gx_F hI) hI.2.2.2 d_Bo_queue_39
    · replace hf := (if_neg c_8).symm.trans hf
      refine lv_iload_n hx hb d_Bo_queue_17 rfl (lv_at hl 3 rfl) ?_
      refine lv_iconst (v := 0) hx hb d_Bo_queue_18 (by decide) ?_
      refine lv_bipush (v := 20) hx hb d_Bo_queue_19 (by decide) ?_
      obtain ⟨r_11, σ_9, hc_10, hf⟩ := gx_bde hf
      refine gx_go (va_runS (As := [.int p2, .int ((0 : Int32)), .int ((20 : Int32))]) (rest := []) G.1 (ct_Bo_within l D dA adr A hA N p2 ((0 : Int32)) ((20 : Int32)) σ_5 r_11 σ_9 hc_10) (cwS 3 ht gi_Bo_45 rfl rfl rfl (by decide +kernel) ⟨Nat.le_of_ble_eq_true rfl, Nat.le_of_ble_eq_true rfl⟩) (gx_pre G hI) rfl rfl hl.1 rfl (lv_room (Nat.le_of_ble_eq_true rfl)) d_Bo_queue_21 ⟨Nat.zero_le _, Nat.zero_le _⟩) hI (st1 := [.int r_11]) rfl (fun H locs hI => ?_)
      refine lv_if_eq (tgt := 38) hx hb d_Bo_queue_24 (by decide) (fun c_12 => ?_) (fun c_12 => ?_)
      · replace hf := (if_pos c_12).symm.trans hf
        refine lv_iconst (v := (-1)) hx hb d_Bo_queue_38 (by decide) ?_
        cases hf
        exact W.iret hx hb hr (gx_F hI) hI.2.2.2 d_Bo_queue_39
      · replace hf := (if_neg c_12).symm.trans hf
        refine lv_iload hx hb d_Bo_queue_27 (lv_at hl 4 rfl) ?_
        refine lv_iconst (v := 1) hx hb d_Bo_queue_29 (by decide) ?_
        refine lv_bipush (v := 50) hx hb d_Bo_queue_30 (by decide) ?_
        obtain ⟨r_15, σ_13, hc_14, hf⟩ := gx_bde hf
        refine gx_go (va_runS (As := [.int p3, .int ((1 : Int32)), .int ((50 : Int32))]) (rest := []) G.1 (ct_Bo_within l D dA adr A hA N p3 ((1 : Int32)) ((50 : Int32)) σ_9 r_15 σ_13 hc_14) (cwS 3 ht gi_Bo_45 rfl rfl rfl (by decide +kernel) ⟨Nat.le_of_ble_eq_true rfl, Nat.le_of_ble_eq_true rfl⟩) (gx_pre G hI) rfl rfl hl.1 rfl (lv_room (Nat.le_of_ble_eq_true rfl)) d_Bo_queue_32 ⟨Nat.zero_le _, Nat.zero_le _⟩) hI (st1 := [.int r_15]) rfl (fun H locs hI => ?_)
        refine lv_if_ne (tgt := 40) hx hb d_Bo_queue_35 (by decide) (fun c_16 => ?_) (fun c_16 => ?_)
        · replace hf := (if_neg c_16).symm.trans hf
          refine lv_aload_n hx hb d_Bo_queue_40 rfl (lv_at hl 0 rfl) ?_
          refine gx_getR (o' := 1) G hI cl_Bo (by decide) 1 (by decide) (by decide) fl_Bo_15 d_Bo_queue_41 ?_
          refine lv_iload_n hx hb d_Bo_queue_44 rfl (lv_at hl 1 rfl) ?_
          obtain ⟨hi_17, hf⟩ := gx_gd hf
          refine gx_aldQ G hI hi_17 d_Bo_queue_45 ?_
          refine lv_iload_n hx hb d_Bo_queue_46 rfl (lv_at hl 2 rfl) ?_
          refine lv_iload_n hx hb d_Bo_queue_47 rfl (lv_at hl 3 rfl) ?_
          refine lv_iload hx hb d_Bo_queue_48 (lv_at hl 4 rfl) ?_
          refine lv_aload_n hx hb d_Bo_queue_50 rfl (lv_at hl 0 rfl) ?_
          refine gx_getI G hI cl_Bo (by decide) 4 (by decide) (by decide) fl_Bo_34 d_Bo_queue_51 ?_
          obtain ⟨σ_18, hc_19, hf⟩ := gx_bve hf
          refine gx_go (va_runV (As := [.int p1, .int p2, .int p3, .int (σ_13 0 4)]) (rest := []) G.1 (ct_Qu_set l D dA adr A hA N (gx_el 1 p0.toNatClampNeg) p1 p2 p3 (σ_13 0 4) σ_13 σ_18 hc_19) (cwV 4 ht gi_Bo_49 rfl rfl rfl (by decide +kernel) ⟨Nat.le_of_ble_eq_true rfl, Nat.le_of_ble_eq_true rfl⟩) (gx_preV G hI cl_Qu (gx_ci_q (gx_el_q hi_17))) rfl rfl hl.1 rfl (lv_room (Nat.le_of_ble_eq_true rfl)) d_Bo_queue_54 ⟨Nat.zero_le _, Nat.zero_le _⟩) hI (st1 := []) rfl (fun H locs hI => ?_)
          refine lv_iconst (v := 0) hx hb d_Bo_queue_57 (by decide) ?_
          cases hf
          exact W.iret hx hb hr (gx_F hI) hI.2.2.2 d_Bo_queue_58
        · replace hf := (if_pos c_16).symm.trans hf
          refine lv_iconst (v := (-1)) hx hb d_Bo_queue_38 (by decide) ?_
          cases hf
          exact W.iret hx hb hr (gx_F hI) hI.2.2.2 d_Bo_queue_39
def fn_Bo_key (N : Nat) (p0 : Int32) (σ : gx_M) : Option (Int32 × gx_M) := if p0 = ((-1 : Int32)) then (gx_lt (gx_up σ 0 5 p0) (fun σ_2 => some ((0 : Int32), σ_2))) else (gx_bd (fn_Bo_within N p0 ((0 : Int32)) ((31 : Int32)) σ) (fun r_5 σ_3 => if r_5 = 0 then (some ((-1 : Int32), σ_3)) else (gx_lt (gx_up σ_3 0 5 p0) (fun σ_7 => some ((0 : Int32), σ_7)))))
set_option maxHeartbeats 4000000 in
set_option maxRecDepth 100000 in
theorem ct_Bo_key (l : Launch) (D : va_G) (dA : Nat → ClassId) (adr : Nat → Nat) (A : Nat → Prop) (hA : gx_A A adr) (N : Nat) (p0 : Int32) (σ : gx_M) (r : Int32) (σ' : gx_M) (hf : fn_Bo_key N p0 σ = some (r, σ')) : Met l y_Bo_key w_Bo_key rm_Bo_key (gx_Pc D dA adr σ [.ref (adr 0), .int p0]) (gx_Q D dA adr A (some (.int r)) σ') 0 0 A := by
  refine Met.ofW (cc := b_Bo_key) (maxL := 2) (ret := some .int) (by decide) rfl ?_
  intro p e s m args below meth c s₁ B hml hv
  obtain ⟨rfl, hP, hK⟩ := hv
  have hx := B.exec
  have hb := B.bytes
  have hr := B.returns
  have hlocks := B.notSynchronized
  have ht : ∀ w ∈ gx_tb, w.before _ s = true := fun w h => atoms_spec (ws := w_Bo_key) B.pre w (List.mem_cons_of_mem _ h)
  have hown : s.vm.findClass R_Bo = some m.cls := findClass_of_methodNamed B.named
  have G : gx_G p m c b_Bo_key 2 s _ gx_tb R_Bo D dA := ⟨⟨hx, hb, hml, hown, ht⟩, hK⟩
  have hI : gx_I D dA adr A s.heap σ s.heap [] := ⟨hP, va_S.rf⟩
  have hl := lv_entry ([.ref (adr 0), .int p0]) (n := 2) (Nat.le_of_ble_eq_true rfl)
  rw [lg_entry_eq]
  generalize (lg_sl ([.ref (adr 0), .int p0]) ++ List.replicate (2 - (lg_sl ([.ref (adr 0), .int p0])).length) Slot.unset).toArray = ls at hl ⊢
  have hl : lv_has ls 2 [(0, .ref (adr 0)), (1, .int p0)] := hl
  rw [fn_Bo_key] at hf
  refine lv_iload_n hx hb d_Bo_key_0 rfl (lv_at hl 1 rfl) ?_
  refine lv_iconst (v := (-1)) hx hb d_Bo_key_1 (by decide) ?_
  refine lv_icmp_eq (tgt := 17) hx hb d_Bo_key_2 (by decide) (fun c_1 => ?_) (fun c_1 => ?_)
  · replace hf := (if_pos c_1).symm.trans hf
    refine lv_aload_n hx hb d_Bo_key_17 rfl (lv_at hl 0 rfl) ?_
    refine lv_iload_n hx hb d_Bo_key_18 rfl (lv_at hl 1 rfl) ?_
    obtain ⟨σ_2, eσ_2, hf⟩ := gx_lte hf
    refine gx_put G hI hA cl_Bo (by decide) 5 (by decide) (by decide) fl_Bo_38 rfl rfl rfl eσ_2 d_Bo_key_19 (fun H locs hI => ?_)
    refine lv_iconst (v := 0) hx hb d_Bo_key_22 (by decide) ?_
    cases hf
    exact W.iret hx hb hr (gx_F hI) hI.2.2.2 d_Bo_key_23
  · replace hf := (if_neg c_1).symm.trans hf
    refine lv_iload_n hx hb d_Bo_key_5 rfl (lv_at hl 1 rfl) ?_
    refine lv_iconst (v := 0) hx hb d_Bo_key_6 (by decide) ?_
    refine lv_bipush (v := 31) hx hb d_Bo_key_7 (by decide) ?_
    obtain ⟨r_5, σ_3, hc_4, hf⟩ := gx_bde hf
    refine gx_go (va_runS (As := [.int p0, .int ((0 : Int32)), .int ((31 : Int32))]) (rest := []) G.1 (ct_Bo_within l D dA adr A hA N p0 ((0 : Int32)) ((31 : Int32)) σ r_5 σ_3 hc_4) (cwS 3 ht gi_Bo_45 rfl rfl rfl (by decide +kernel) ⟨Nat.le_of_ble_eq_true rfl, Nat.le_of_ble_eq_true rfl⟩) (gx_pre G hI) rfl rfl hl.1 rfl (lv_room (Nat.le_of_ble_eq_true rfl)) d_Bo_key_9 ⟨Nat.zero_le _, Nat.zero_le _⟩) hI (st1 := [.int r_5]) rfl (fun H locs hI => ?_)
    refine lv_if_ne (tgt := 17) hx hb d_Bo_key_12 (by decide) (fun c_6 => ?_) (fun c_6 => ?_)
    · replace hf := (if_neg c_6).symm.trans hf
      refine lv_aload_n hx hb d_Bo_key_17 rfl (lv_at hl 0 rfl) ?_
      refine lv_iload_n hx hb d_Bo_key_18 rfl (lv_at hl 1 rfl) ?_
      obtain ⟨σ_7, eσ_7, hf⟩ := gx_lte hf
      refine gx_put G hI hA cl_Bo (by decide) 5 (by decide) (by decide) fl_Bo_38 rfl rfl rfl eσ_7 d_Bo_key_19 (fun H locs hI => ?_)
      refine lv_iconst (v := 0) hx hb d_Bo_key_22 (by decide) ?_
      cases hf
      exact W.iret hx hb hr (gx_F hI) hI.2.2.2 d_Bo_key_23
    · replace hf := (if_pos c_6).symm.trans hf
      refine lv_iconst (v := (-1)) hx hb d_Bo_key_15 (by decide) ?_
      cases hf
      exact W.iret hx hb hr (gx_F hI) hI.2.2.2 d_Bo_key_16
def fn_Bo_submit (N : Nat) (p0 : Int32) (p1 : Int32) (p2 : Int32) (p3 : Int32) (p4 : Int32) (σ : gx_M) : Option (Int32 × gx_M) := gx_bd (fn_Bo_isQueue N p0 σ) (fun r_3 σ_1 => if r_3 = 0 then (some ((-1 : Int32), σ_1)) else (gx_bd (fn_Bo_within N p1 ((0 : Int32)) ((9 : Int32)) σ_1) (fun r_7 σ_5 => if r_7 = 0 then (some ((-1 : Int32), σ_5)) else (gx_bd (fn_Bo_within N p2 ((0 : Int32)) ((1000 : Int32)) σ_5) (fun r_11 σ_9 => if r_11 = 0 then (some ((-1 : Int32), σ_9)) else (gx_bd (fn_Bo_within N p3 ((0 : Int32)) ((5 : Int32)) σ_9) (fun r_15 σ_13 => if r_15 = 0 then (some ((-1 : Int32), σ_13)) else (gx_bd (fn_Bo_within N p4 ((1 : Int32)) ((50 : Int32)) σ_13) (fun r_19 σ_17 => if r_19 = 0 then (some ((-1 : Int32), σ_17)) else (gx_bd (fn_Ro_hasLiveKey N 24 (σ_17 0 5) σ_17) (fun r_23 σ_21 => if r_23 = 0 then (gx_bd (fn_Ro_make N 24 p0 p1 σ_21) (fun x_27 σ_25 => gx_mt x_27 (some ((-2 : Int32), σ_25)) (fun o_28 => if 42 ≤ o_28 ∧ o_28 < 722 then (gx_lt (gx_up σ_25 o_28 3 p3) (fun σ_30 => gx_lt (gx_up σ_30 o_28 4 p4) (fun σ_31 => gx_lt (gx_up σ_31 o_28 5 (σ_31 0 5)) (fun σ_32 => gx_lt (gx_up σ_32 0 5 ((-1 : Int32))) (fun σ_33 => if p2 = 0 then (gx_bv (fn_Ro_enter N 24 o_28 ((1 : Int32)) σ_33) (fun σ_39 => gx_bv (fn_Jn_write N 24 σ_39) (fun σ_41 => some (σ_41 o_28 0, σ_41)))) else (gx_bv (fn_Jb_waitUntil N o_28 ((0 : Int32)) ((σ_33 0 4) + p2) σ_33) (fun σ_35 => gx_bv (fn_Jn_write N 24 σ_35) (fun σ_37 => some (σ_37 o_28 0, σ_37))))))))) else none))) else (some ((-3 : Int32), σ_21)))))))))))))
set_option maxHeartbeats 4000000 in
set_option maxRecDepth 100000 in
theorem ct_Bo_submit (l : Launch) (D : va_G) (dA : Nat → ClassId) (adr : Nat → Nat) (A : Nat → Prop) (hA : gx_A A adr) (N : Nat) (p0 : Int32) (p1 : Int32) (p2 : Int32) (p3 : Int32) (p4 : Int32) (σ : gx_M) (r : Int32) (σ' : gx_M) (hf : fn_Bo_submit N p0 p1 p2 p3 p4 σ = some (r, σ')) : Met l y_Bo_submit w_Bo_submit rm_Bo_submit (gx_Pc D dA adr σ [.ref (adr 0), .int p0, .int p1, .int p2, .int p3, .int p4]) (gx_Q D dA adr A (some (.int r)) σ') 0 0 A := by
  refine Met.ofW (cc := b_Bo_submit) (maxL := 7) (ret := some .int) (by decide) rfl ?_
  intro p e s m args below meth c s₁ B hml hv
  obtain ⟨rfl, hP, hK⟩ := hv
  have hx := B.exec
  have hb := B.bytes
  have hr := B.returns
  have hlocks := B.notSynchronized
  have ht : ∀ w ∈ gx_tb, w.before _ s = true := fun w h => atoms_spec (ws := w_Bo_submit) B.pre w (List.mem_cons_of_mem _ h)
  have hown : s.vm.findClass R_Bo = some m.cls := findClass_of_methodNamed B.named
  have G : gx_G p m c b_Bo_submit 7 s _ gx_tb R_Bo D dA := ⟨⟨hx, hb, hml, hown, ht⟩, hK⟩
  have hI : gx_I D dA adr A s.heap σ s.heap [] := ⟨hP, va_S.rf⟩
  have hl := lv_entry ([.ref (adr 0), .int p0, .int p1, .int p2, .int p3, .int p4]) (n := 7) (Nat.le_of_ble_eq_true rfl)
  rw [lg_entry_eq]
  generalize (lg_sl ([.ref (adr 0), .int p0, .int p1, .int p2, .int p3, .int p4]) ++ List.replicate (7 - (lg_sl ([.ref (adr 0), .int p0, .int p1, .int p2, .int p3, .int p4])).length) Slot.unset).toArray = ls at hl ⊢
  have hl : lv_has ls 7 [(0, .ref (adr 0)), (1, .int p0), (2, .int p1), (3, .int p2), (4, .int p3), (5, .int p4)] := hl
  rw [fn_Bo_submit] at hf
  refine lv_iload_n hx hb d_Bo_submit_0 rfl (lv_at hl 1 rfl) ?_
  obtain ⟨r_3, σ_1, hc_2, hf⟩ := gx_bde hf
  refine gx_go (va_runS (As := [.int p0]) (rest := []) G.1 (ct_Bo_isQueue l D dA adr A hA N p0 σ r_3 σ_1 hc_2) (cwS 1 ht gi_Bo_41 rfl rfl rfl (by decide +kernel) ⟨Nat.le_of_ble_eq_true rfl, Nat.le_of_ble_eq_true rfl⟩) (gx_pre G hI) rfl rfl hl.1 rfl (lv_room (Nat.le_of_ble_eq_true rfl)) d_Bo_submit_1 ⟨Nat.zero_le _, Nat.zero_le _⟩) hI (st1 := [.int r_3]) rfl (fun H locs hI => ?_)
  refine lv_if_eq (tgt := 49) hx hb d_Bo_submit_4 (by decide) (fun c_4 => ?_) (fun c_4 => ?_)
  · replace hf := (if_pos c_4).symm.trans hf
    refine lv_iconst (v := (-1)) hx hb d_Bo_submit_49 (by decide) ?_
    cases hf
    exact W.iret hx hb hr (gx_F hI) hI.2.2.2 d_Bo_submit_50
  · replace hf := (if_neg c_4).symm.trans hf
    refine lv_iload_n hx hb d_Bo_submit_7 rfl (lv_at hl 2 rfl) ?_
    refine lv_iconst (v := 0) hx hb d_Bo_submit_8 (by decide) ?_
    refine lv_bipush (v := 9) hx hb d_Bo_submit_9 (by decide) ?_
    obtain ⟨r_7, σ_5, hc_6, hf⟩ := gx_bde hf
    refine gx_go (va_runS (As := [.int p1, .int ((0 : Int32)), .int ((9 : Int32))]) (rest := []) G.1 (ct_Bo_within l D dA adr A hA N p1 ((0 : Int32)) ((9 : Int32)) σ_1 r_7 σ_5 hc_6) (cwS 3 ht gi_Bo_45 rfl rfl rfl (by decide +kernel) ⟨Nat.le_of_ble_eq_true rfl, Nat.le_of_ble_eq_true rfl⟩) (gx_pre G hI) rfl rfl hl.1 rfl (lv_room (Nat.le_of_ble_eq_true rfl)) d_Bo_submit_11 ⟨Nat.zero_le _, Nat.zero_le _⟩) hI (st1 := [.int r_7]) rfl (fun H locs hI => ?_)
    refine lv_if_eq (tgt := 49) hx hb d_Bo_submit_14 (by decide) (fun c_8 => ?_) (fun c_8 => ?_)
    · replace hf := (if_pos c_8).symm.trans hf
      refine lv_iconst (v := (-1)) hx hb d_Bo_submit_49 (by decide) ?_
      cases hf
      exact W.iret hx hb hr (gx_F hI) hI.2.2.2 d_Bo_submit_50
    · replace hf := (if_neg c_8).symm.trans hf
      refine lv_iload_n hx hb d_Bo_submit_17 rfl (lv_at hl 3 rfl) ?_
      refine lv_iconst (v := 0) hx hb d_Bo_submit_18 (by decide) ?_
      refine lv_sipush (v := 1000) hx hb d_Bo_submit_19 (by decide) ?_
      obtain ⟨r_11, σ_9, hc_10, hf⟩ := gx_bde hf
      refine gx_go (va_runS (As := [.int p2, .int ((0 : Int32)), .int ((1000 : Int32))]) (rest := []) G.1 (ct_Bo_within l D dA adr A hA N p2 ((0 : Int32)) ((1000 : Int32)) σ_5 r_11 σ_9 hc_10) (cwS 3 ht gi_Bo_45 rfl rfl rfl (by decide +kernel) ⟨Nat.le_of_ble_eq_true rfl, Nat.le_of_ble_eq_true rfl⟩) (gx_pre G hI) rfl rfl hl.1 rfl (lv_room (Nat.le_of_ble_eq_true rfl)) d_Bo_submit_22 ⟨Nat.zero_le _, Nat.zero_le _⟩) hI (st1 := [.int r_11]) rfl (fun H locs hI => ?_)
      refine lv_if_eq (tgt := 49) hx hb d_Bo_submit_25 (by decide) (fun c_12 => ?_) (fun c_12 => ?_)
      · replace hf := (if_pos c_12).symm.trans hf
        refine lv_iconst (v := (-1)) hx hb d_Bo_submit_49 (by decide) ?_
        cases hf
        exact W.iret hx hb hr (gx_F hI) hI.2.2.2 d_Bo_submit_50
      · replace hf := (if_neg c_12).symm.trans hf
        refine lv_iload hx hb d_Bo_submit_28 (lv_at hl 4 rfl) ?_
        refine lv_iconst (v := 0) hx hb d_Bo_submit_30 (by decide) ?_
        refine lv_iconst (v := 5) hx hb d_Bo_submit_31 (by decide) ?_
        obtain ⟨r_15, σ_13, hc_14, hf⟩ := gx_bde hf
        refine gx_go (va_runS (As := [.int p3, .int ((0 : Int32)), .int ((5 : Int32))]) (rest := []) G.1 (ct_Bo_within l D dA adr A hA N p3 ((0 : Int32)) ((5 : Int32)) σ_9 r_15 σ_13 hc_14) (cwS 3 ht gi_Bo_45 rfl rfl rfl (by decide +kernel) ⟨Nat.le_of_ble_eq_true rfl, Nat.le_of_ble_eq_true rfl⟩) (gx_pre G hI) rfl rfl hl.1 rfl (lv_room (Nat.le_of_ble_eq_true rfl)) d_Bo_submit_32 ⟨Nat.zero_le _, Nat.zero_le _⟩) hI (st1 := [.int r_15]) rfl (fun H locs hI => ?_)
        refine lv_if_eq (tgt := 49) hx hb d_Bo_submit_35 (by decide) (fun c_16 => ?_) (fun c_16 => ?_)
        · replace hf := (if_pos c_16).symm.trans hf
          refine lv_iconst (v := (-1)) hx hb d_Bo_submit_49 (by decide) ?_
          cases hf
          exact W.iret hx hb hr (gx_F hI) hI.2.2.2 d_Bo_submit_50
        · replace hf := (if_neg c_16).symm.trans hf
          refine lv_iload hx hb d_Bo_submit_38 (lv_at hl 5 rfl) ?_
          refine lv_iconst (v := 1) hx hb d_Bo_submit_40 (by decide) ?_
          refine lv_bipush (v := 50) hx hb d_Bo_submit_41 (by decide) ?_
          obtain ⟨r_19, σ_17, hc_18, hf⟩ := gx_bde hf
          refine gx_go (va_runS (As := [.int p4, .int ((1 : Int32)), .int ((50 : Int32))]) (rest := []) G.1 (ct_Bo_within l D dA adr A hA N p4 ((1 : Int32)) ((50 : Int32)) σ_13 r_19 σ_17 hc_18) (cwS 3 ht gi_Bo_45 rfl rfl rfl (by decide +kernel) ⟨Nat.le_of_ble_eq_true rfl, Nat.le_of_ble_eq_true rfl⟩) (gx_pre G hI) rfl rfl hl.1 rfl (lv_room (Nat.le_of_ble_eq_true rfl)) d_Bo_submit_43 ⟨Nat.zero_le _, Nat.zero_le _⟩) hI (st1 := [.int r_19]) rfl (fun H locs hI => ?_)
          refine lv_if_ne (tgt := 51) hx hb d_Bo_submit_46 (by decide) (fun c_20 => ?_) (fun c_20 => ?_)
          · replace hf := (if_neg c_20).symm.trans hf
            refine lv_aload_n hx hb d_Bo_submit_51 rfl (lv_at hl 0 rfl) ?_
            refine gx_getR (o' := 24) G hI cl_Bo (by decide) 2 (by decide) (by decide) fl_Bo_23 d_Bo_submit_52 ?_
            refine lv_aload_n hx hb d_Bo_submit_55 rfl (lv_at hl 0 rfl) ?_
            refine gx_getI G hI cl_Bo (by decide) 5 (by decide) (by decide) fl_Bo_38 d_Bo_submit_56 ?_
            obtain ⟨r_23, σ_21, hc_22, hf⟩ := gx_bde hf
            refine gx_go (va_runV (As := [.int (σ_17 0 5)]) (rest := []) G.1 (ct_Ro_hasLiveKey l D dA adr A hA N 24 (σ_17 0 5) σ_17 r_23 σ_21 hc_22) (cwV 1 ht gi_Bo_53 rfl rfl rfl (by decide +kernel) ⟨Nat.le_of_ble_eq_true rfl, Nat.le_of_ble_eq_true rfl⟩) (gx_preV G hI cl_Ro (gx_ci_r (by decide))) rfl rfl hl.1 rfl (lv_room (Nat.le_of_ble_eq_true rfl)) d_Bo_submit_59 ⟨Nat.zero_le _, Nat.zero_le _⟩) hI (st1 := [.int r_23]) rfl (fun H locs hI => ?_)
            refine lv_if_eq (tgt := 68) hx hb d_Bo_submit_62 (by decide) (fun c_24 => ?_) (fun c_24 => ?_)
            · replace hf := (if_pos c_24).symm.trans hf
              refine lv_aload_n hx hb d_Bo_submit_68 rfl (lv_at hl 0 rfl) ?_
              refine gx_getR (o' := 24) G hI cl_Bo (by decide) 2 (by decide) (by decide) fl_Bo_23 d_Bo_submit_69 ?_
              refine lv_iload_n hx hb d_Bo_submit_72 rfl (lv_at hl 1 rfl) ?_
              refine lv_iload_n hx hb d_Bo_submit_73 rfl (lv_at hl 2 rfl) ?_
              obtain ⟨x_27, σ_25, hc_26, hf⟩ := gx_bde hf
              rcases x_27 with _ | o_28
              · replace hf := gx_mtn hf
                refine gx_go (va_runV (As := [.int p0, .int p1]) (rest := []) G.1 (ct_Ro_make l D dA adr A hA N 24 p0 p1 σ_21 none σ_25 hc_26) (cwV 2 ht gi_Bo_56 rfl rfl rfl (by decide +kernel) ⟨Nat.le_of_ble_eq_true rfl, Nat.le_of_ble_eq_true rfl⟩) (gx_preV G hI cl_Ro (gx_ci_r (by decide))) rfl rfl hl.1 rfl (lv_room (Nat.le_of_ble_eq_true rfl)) d_Bo_submit_74 ⟨Nat.zero_le _, Nat.zero_le _⟩) hI (st1 := [.null]) rfl (fun H locs hI => ?_)
                refine lv_astoreN (i := 6) (lv' := [(6, .null), (0, .ref (adr 0)), (1, .int p0), (2, .int p1), (3, .int p2), (4, .int p3), (5, .int p4)]) hx hb d_Bo_submit_77 hl (by decide) rfl (fun ls hl => ?_)
                refine lv_aloadN hx hb d_Bo_submit_79 (lv_at hl 0 rfl) ?_
                refine lv_ifnonnullN hx hb d_Bo_submit_81 ?_
                refine lv_bipush (v := (-2)) hx hb d_Bo_submit_84 (by decide) ?_
                cases hf
                exact W.iret hx hb hr (gx_F hI) hI.2.2.2 d_Bo_submit_86
              · replace hf := gx_mts hf
                obtain ⟨hg_29, hf⟩ := gx_gd hf
                refine gx_go (va_runV (As := [.int p0, .int p1]) (rest := []) G.1 (ct_Ro_make l D dA adr A hA N 24 p0 p1 σ_21 (some o_28) σ_25 hc_26) (cwV 2 ht gi_Bo_56 rfl rfl rfl (by decide +kernel) ⟨Nat.le_of_ble_eq_true rfl, Nat.le_of_ble_eq_true rfl⟩) (gx_preV G hI cl_Ro (gx_ci_r (by decide))) rfl rfl hl.1 rfl (lv_room (Nat.le_of_ble_eq_true rfl)) d_Bo_submit_74 ⟨Nat.zero_le _, Nat.zero_le _⟩) hI (st1 := [.ref (adr o_28)]) rfl (fun H locs hI => ?_)
                refine lv_astore (i := 6) (lv' := [(6, .ref (adr o_28)), (0, .ref (adr 0)), (1, .int p0), (2, .int p1), (3, .int p2), (4, .int p3), (5, .int p4)]) hx hb d_Bo_submit_77 hl (by decide) rfl (fun ls hl => ?_)
                refine lv_aload hx hb d_Bo_submit_79 (lv_at hl 0 rfl) ?_
                refine lv_ifnonnull (tgt := 87) hx hb d_Bo_submit_81 (by decide) ?_
                refine lv_aload hx hb d_Bo_submit_87 (lv_at hl 0 rfl) ?_
                refine lv_iload hx hb d_Bo_submit_89 (lv_at hl 5 rfl) ?_
                obtain ⟨σ_30, eσ_30, hf⟩ := gx_lte hf
                refine gx_put G hI hA cl_Jb (gx_ci_j hg_29) 3 (by decide) (gx_rf_j hg_29 3) fl_Bo_60 rfl rfl rfl eσ_30 d_Bo_submit_91 (fun H locs hI => ?_)
                refine lv_aload hx hb d_Bo_submit_94 (lv_at hl 0 rfl) ?_
                refine lv_iload hx hb d_Bo_submit_96 (lv_at hl 6 rfl) ?_
                obtain ⟨σ_31, eσ_31, hf⟩ := gx_lte hf
                refine gx_put G hI hA cl_Jb (gx_ci_j hg_29) 4 (by decide) (gx_rf_j hg_29 4) fl_Bo_65 rfl rfl rfl eσ_31 d_Bo_submit_98 (fun H locs hI => ?_)
                refine lv_aload hx hb d_Bo_submit_101 (lv_at hl 0 rfl) ?_
                refine lv_aload_n hx hb d_Bo_submit_103 rfl (lv_at hl 1 rfl) ?_
                refine gx_getI G hI cl_Bo (by decide) 5 (by decide) (by decide) fl_Bo_38 d_Bo_submit_104 ?_
                obtain ⟨σ_32, eσ_32, hf⟩ := gx_lte hf
                refine gx_put G hI hA cl_Jb (gx_ci_j hg_29) 5 (by decide) (gx_rf_j hg_29 5) fl_Bo_68 rfl rfl rfl eσ_32 d_Bo_submit_107 (fun H locs hI => ?_)
                refine lv_aload_n hx hb d_Bo_submit_110 rfl (lv_at hl 1 rfl) ?_
                refine lv_iconst (v := (-1)) hx hb d_Bo_submit_111 (by decide) ?_
                obtain ⟨σ_33, eσ_33, hf⟩ := gx_lte hf
                refine gx_put G hI hA cl_Bo (by decide) 5 (by decide) (by decide) fl_Bo_38 rfl rfl rfl eσ_33 d_Bo_submit_112 (fun H locs hI => ?_)
                refine lv_iload_n hx hb d_Bo_submit_115 rfl (lv_at hl 4 rfl) ?_
                refine lv_if_ne (tgt := 132) hx hb d_Bo_submit_116 (by decide) (fun c_34 => ?_) (fun c_34 => ?_)
                · replace hf := (if_neg c_34).symm.trans hf
                  refine lv_aload hx hb d_Bo_submit_132 (lv_at hl 0 rfl) ?_
                  refine lv_iconst (v := 0) hx hb d_Bo_submit_134 (by decide) ?_
                  refine lv_aload_n hx hb d_Bo_submit_135 rfl (lv_at hl 1 rfl) ?_
                  refine gx_getI G hI cl_Bo (by decide) 4 (by decide) (by decide) fl_Bo_34 d_Bo_submit_136 ?_
                  refine lv_iload_n hx hb d_Bo_submit_139 rfl (lv_at hl 4 rfl) ?_
                  refine lv_iadd hx hb d_Bo_submit_140 ?_
                  obtain ⟨σ_35, hc_36, hf⟩ := gx_bve hf
                  refine gx_go (va_runV (As := [.int ((0 : Int32)), .int ((σ_33 0 4) + p2)]) (rest := []) G.1 (ct_Jb_waitUntil l D dA adr A hA N o_28 ((0 : Int32)) ((σ_33 0 4) + p2) σ_33 σ_35 hc_36) (cwV 2 ht gi_Bo_75 rfl rfl rfl (by decide +kernel) ⟨Nat.le_of_ble_eq_true rfl, Nat.le_of_ble_eq_true rfl⟩) (gx_preV G hI cl_Jb (gx_ci_j hg_29)) rfl rfl hl.1 rfl (lv_room (Nat.le_of_ble_eq_true rfl)) d_Bo_submit_141 ⟨Nat.zero_le _, Nat.zero_le _⟩) hI (st1 := []) rfl (fun H locs hI => ?_)
                  refine lv_aload_n hx hb d_Bo_submit_144 rfl (lv_at hl 1 rfl) ?_
                  refine gx_getR (o' := 6) G hI cl_Bo (by decide) 3 (by decide) (by decide) fl_Bo_30 d_Bo_submit_145 ?_
                  refine lv_aload_n hx hb d_Bo_submit_148 rfl (lv_at hl 1 rfl) ?_
                  refine gx_getR (o' := 24) G hI cl_Bo (by decide) 2 (by decide) (by decide) fl_Bo_23 d_Bo_submit_149 ?_
                  obtain ⟨σ_37, hc_38, hf⟩ := gx_bve hf
                  refine gx_go (va_runV (As := [.ref (adr 24)]) (rest := []) G.1 (ct_Jn_write l D dA adr A hA N 24 σ_35 σ_37 hc_38) (cwV 1 ht gi_Bo_79 rfl rfl rfl (by decide +kernel) ⟨Nat.le_of_ble_eq_true rfl, Nat.le_of_ble_eq_true rfl⟩) (gx_preV G hI cl_Jn (by decide)) rfl rfl hl.1 rfl (lv_room (Nat.le_of_ble_eq_true rfl)) d_Bo_submit_152 ⟨Nat.zero_le _, Nat.zero_le _⟩) hI (st1 := []) rfl (fun H locs hI => ?_)
                  refine lv_aload hx hb d_Bo_submit_155 (lv_at hl 0 rfl) ?_
                  refine gx_getI G hI cl_Jb (gx_ci_j hg_29) 0 (by decide) (gx_rf_j hg_29 0) fl_Bo_83 d_Bo_submit_157 ?_
                  cases hf
                  exact W.iret hx hb hr (gx_F hI) hI.2.2.2 d_Bo_submit_160
                · replace hf := (if_pos c_34).symm.trans hf
                  refine lv_aload_n hx hb d_Bo_submit_119 rfl (lv_at hl 1 rfl) ?_
                  refine gx_getR (o' := 24) G hI cl_Bo (by decide) 2 (by decide) (by decide) fl_Bo_23 d_Bo_submit_120 ?_
                  refine lv_aload hx hb d_Bo_submit_123 (lv_at hl 0 rfl) ?_
                  refine lv_iconst (v := 1) hx hb d_Bo_submit_125 (by decide) ?_
                  obtain ⟨σ_39, hc_40, hf⟩ := gx_bve hf
                  refine gx_go (va_runV (As := [.ref (adr o_28), .int ((1 : Int32))]) (rest := []) G.1 (ct_Ro_enter l D dA adr A hA N 24 o_28 ((1 : Int32)) σ_33 σ_39 hc_40) (cwV 2 ht gi_Bo_71 rfl rfl rfl (by decide +kernel) ⟨Nat.le_of_ble_eq_true rfl, Nat.le_of_ble_eq_true rfl⟩) (gx_preV G hI cl_Ro (gx_ci_r (by decide))) rfl rfl hl.1 rfl (lv_room (Nat.le_of_ble_eq_true rfl)) d_Bo_submit_126 ⟨Nat.zero_le _, Nat.zero_le _⟩) hI (st1 := []) rfl (fun H locs hI => ?_)
                  refine lv_goto (tgt := 144) hx hb d_Bo_submit_129 (by decide) ?_
                  refine lv_aload_n hx hb d_Bo_submit_144 rfl (lv_at hl 1 rfl) ?_
                  refine gx_getR (o' := 6) G hI cl_Bo (by decide) 3 (by decide) (by decide) fl_Bo_30 d_Bo_submit_145 ?_
                  refine lv_aload_n hx hb d_Bo_submit_148 rfl (lv_at hl 1 rfl) ?_
                  refine gx_getR (o' := 24) G hI cl_Bo (by decide) 2 (by decide) (by decide) fl_Bo_23 d_Bo_submit_149 ?_
                  obtain ⟨σ_41, hc_42, hf⟩ := gx_bve hf
                  refine gx_go (va_runV (As := [.ref (adr 24)]) (rest := []) G.1 (ct_Jn_write l D dA adr A hA N 24 σ_39 σ_41 hc_42) (cwV 1 ht gi_Bo_79 rfl rfl rfl (by decide +kernel) ⟨Nat.le_of_ble_eq_true rfl, Nat.le_of_ble_eq_true rfl⟩) (gx_preV G hI cl_Jn (by decide)) rfl rfl hl.1 rfl (lv_room (Nat.le_of_ble_eq_true rfl)) d_Bo_submit_152 ⟨Nat.zero_le _, Nat.zero_le _⟩) hI (st1 := []) rfl (fun H locs hI => ?_)
                  refine lv_aload hx hb d_Bo_submit_155 (lv_at hl 0 rfl) ?_
                  refine gx_getI G hI cl_Jb (gx_ci_j hg_29) 0 (by decide) (gx_rf_j hg_29 0) fl_Bo_83 d_Bo_submit_157 ?_
                  cases hf
                  exact W.iret hx hb hr (gx_F hI) hI.2.2.2 d_Bo_submit_160
            · replace hf := (if_neg c_24).symm.trans hf
              refine lv_bipush (v := (-3)) hx hb d_Bo_submit_65 (by decide) ?_
              cases hf
              exact W.iret hx hb hr (gx_F hI) hI.2.2.2 d_Bo_submit_67
          · replace hf := (if_pos c_20).symm.trans hf
            refine lv_iconst (v := (-1)) hx hb d_Bo_submit_49 (by decide) ?_
            cases hf
            exact W.iret hx hb hr (gx_F hI) hI.2.2.2 d_Bo_submit_50
def fn_Bo_hold (N : Nat) (p0 : Int32) (p1 : Int32) (σ : gx_M) : Option (Int32 × gx_M) := gx_bd (fn_Bo_isQueue N p0 σ) (fun r_3 σ_1 => if r_3 = 0 then (some ((-1 : Int32), σ_1)) else (gx_bd (fn_Bo_within N p1 ((0 : Int32)) ((9 : Int32)) σ_1) (fun r_7 σ_5 => if r_7 = 0 then (some ((-1 : Int32), σ_5)) else (gx_bd (fn_Ro_make N 24 p0 p1 σ_5) (fun x_11 σ_9 => gx_mt x_11 (some ((-2 : Int32), σ_9)) (fun o_12 => if 42 ≤ o_12 ∧ o_12 < 722 then (gx_bv (fn_Jn_write N 24 σ_9) (fun σ_14 => some (σ_14 o_12 0, σ_14))) else none))))))
set_option maxHeartbeats 4000000 in
set_option maxRecDepth 100000 in
theorem ct_Bo_hold (l : Launch) (D : va_G) (dA : Nat → ClassId) (adr : Nat → Nat) (A : Nat → Prop) (hA : gx_A A adr) (N : Nat) (p0 : Int32) (p1 : Int32) (σ : gx_M) (r : Int32) (σ' : gx_M) (hf : fn_Bo_hold N p0 p1 σ = some (r, σ')) : Met l y_Bo_hold w_Bo_hold rm_Bo_hold (gx_Pc D dA adr σ [.ref (adr 0), .int p0, .int p1]) (gx_Q D dA adr A (some (.int r)) σ') 0 0 A := by
  refine Met.ofW (cc := b_Bo_hold) (maxL := 4) (ret := some .int) (by decide) rfl ?_
  intro p e s m args below meth c s₁ B hml hv
  obtain ⟨rfl, hP, hK⟩ := hv
  have hx := B.exec
  have hb := B.bytes
  have hr := B.returns
  have hlocks := B.notSynchronized
  have ht : ∀ w ∈ gx_tb, w.before _ s = true := fun w h => atoms_spec (ws := w_Bo_hold) B.pre w (List.mem_cons_of_mem _ h)
  have hown : s.vm.findClass R_Bo = some m.cls := findClass_of_methodNamed B.named
  have G : gx_G p m c b_Bo_hold 4 s _ gx_tb R_Bo D dA := ⟨⟨hx, hb, hml, hown, ht⟩, hK⟩
  have hI : gx_I D dA adr A s.heap σ s.heap [] := ⟨hP, va_S.rf⟩
  have hl := lv_entry ([.ref (adr 0), .int p0, .int p1]) (n := 4) (Nat.le_of_ble_eq_true rfl)
  rw [lg_entry_eq]
  generalize (lg_sl ([.ref (adr 0), .int p0, .int p1]) ++ List.replicate (4 - (lg_sl ([.ref (adr 0), .int p0, .int p1])).length) Slot.unset).toArray = ls at hl ⊢
  have hl : lv_has ls 4 [(0, .ref (adr 0)), (1, .int p0), (2, .int p1)] := hl
  rw [fn_Bo_hold] at hf
  refine lv_iload_n hx hb d_Bo_hold_0 rfl (lv_at hl 1 rfl) ?_
  obtain ⟨r_3, σ_1, hc_2, hf⟩ := gx_bde hf
  refine gx_go (va_runS (As := [.int p0]) (rest := []) G.1 (ct_Bo_isQueue l D dA adr A hA N p0 σ r_3 σ_1 hc_2) (cwS 1 ht gi_Bo_41 rfl rfl rfl (by decide +kernel) ⟨Nat.le_of_ble_eq_true rfl, Nat.le_of_ble_eq_true rfl⟩) (gx_pre G hI) rfl rfl hl.1 rfl (lv_room (Nat.le_of_ble_eq_true rfl)) d_Bo_hold_1 ⟨Nat.zero_le _, Nat.zero_le _⟩) hI (st1 := [.int r_3]) rfl (fun H locs hI => ?_)
  refine lv_if_eq (tgt := 17) hx hb d_Bo_hold_4 (by decide) (fun c_4 => ?_) (fun c_4 => ?_)
  · replace hf := (if_pos c_4).symm.trans hf
    refine lv_iconst (v := (-1)) hx hb d_Bo_hold_17 (by decide) ?_
    cases hf
    exact W.iret hx hb hr (gx_F hI) hI.2.2.2 d_Bo_hold_18
  · replace hf := (if_neg c_4).symm.trans hf
    refine lv_iload_n hx hb d_Bo_hold_7 rfl (lv_at hl 2 rfl) ?_
    refine lv_iconst (v := 0) hx hb d_Bo_hold_8 (by decide) ?_
    refine lv_bipush (v := 9) hx hb d_Bo_hold_9 (by decide) ?_
    obtain ⟨r_7, σ_5, hc_6, hf⟩ := gx_bde hf
    refine gx_go (va_runS (As := [.int p1, .int ((0 : Int32)), .int ((9 : Int32))]) (rest := []) G.1 (ct_Bo_within l D dA adr A hA N p1 ((0 : Int32)) ((9 : Int32)) σ_1 r_7 σ_5 hc_6) (cwS 3 ht gi_Bo_45 rfl rfl rfl (by decide +kernel) ⟨Nat.le_of_ble_eq_true rfl, Nat.le_of_ble_eq_true rfl⟩) (gx_pre G hI) rfl rfl hl.1 rfl (lv_room (Nat.le_of_ble_eq_true rfl)) d_Bo_hold_11 ⟨Nat.zero_le _, Nat.zero_le _⟩) hI (st1 := [.int r_7]) rfl (fun H locs hI => ?_)
    refine lv_if_ne (tgt := 19) hx hb d_Bo_hold_14 (by decide) (fun c_8 => ?_) (fun c_8 => ?_)
    · replace hf := (if_neg c_8).symm.trans hf
      refine lv_aload_n hx hb d_Bo_hold_19 rfl (lv_at hl 0 rfl) ?_
      refine gx_getR (o' := 24) G hI cl_Bo (by decide) 2 (by decide) (by decide) fl_Bo_23 d_Bo_hold_20 ?_
      refine lv_iload_n hx hb d_Bo_hold_23 rfl (lv_at hl 1 rfl) ?_
      refine lv_iload_n hx hb d_Bo_hold_24 rfl (lv_at hl 2 rfl) ?_
      obtain ⟨x_11, σ_9, hc_10, hf⟩ := gx_bde hf
      rcases x_11 with _ | o_12
      · replace hf := gx_mtn hf
        refine gx_go (va_runV (As := [.int p0, .int p1]) (rest := []) G.1 (ct_Ro_make l D dA adr A hA N 24 p0 p1 σ_5 none σ_9 hc_10) (cwV 2 ht gi_Bo_56 rfl rfl rfl (by decide +kernel) ⟨Nat.le_of_ble_eq_true rfl, Nat.le_of_ble_eq_true rfl⟩) (gx_preV G hI cl_Ro (gx_ci_r (by decide))) rfl rfl hl.1 rfl (lv_room (Nat.le_of_ble_eq_true rfl)) d_Bo_hold_25 ⟨Nat.zero_le _, Nat.zero_le _⟩) hI (st1 := [.null]) rfl (fun H locs hI => ?_)
        refine lv_astore_nN (i := 3) (lv' := [(3, .null), (0, .ref (adr 0)), (1, .int p0), (2, .int p1)]) hx hb d_Bo_hold_28 rfl hl (by decide) rfl (fun ls hl => ?_)
        refine lv_aload_nN hx hb d_Bo_hold_29 rfl (lv_at hl 0 rfl) ?_
        refine lv_ifnonnullN hx hb d_Bo_hold_30 ?_
        refine lv_bipush (v := (-2)) hx hb d_Bo_hold_33 (by decide) ?_
        cases hf
        exact W.iret hx hb hr (gx_F hI) hI.2.2.2 d_Bo_hold_35
      · replace hf := gx_mts hf
        obtain ⟨hg_13, hf⟩ := gx_gd hf
        refine gx_go (va_runV (As := [.int p0, .int p1]) (rest := []) G.1 (ct_Ro_make l D dA adr A hA N 24 p0 p1 σ_5 (some o_12) σ_9 hc_10) (cwV 2 ht gi_Bo_56 rfl rfl rfl (by decide +kernel) ⟨Nat.le_of_ble_eq_true rfl, Nat.le_of_ble_eq_true rfl⟩) (gx_preV G hI cl_Ro (gx_ci_r (by decide))) rfl rfl hl.1 rfl (lv_room (Nat.le_of_ble_eq_true rfl)) d_Bo_hold_25 ⟨Nat.zero_le _, Nat.zero_le _⟩) hI (st1 := [.ref (adr o_12)]) rfl (fun H locs hI => ?_)
        refine lv_astore_n (i := 3) (lv' := [(3, .ref (adr o_12)), (0, .ref (adr 0)), (1, .int p0), (2, .int p1)]) hx hb d_Bo_hold_28 rfl hl (by decide) rfl (fun ls hl => ?_)
        refine lv_aload_n hx hb d_Bo_hold_29 rfl (lv_at hl 0 rfl) ?_
        refine lv_ifnonnull (tgt := 36) hx hb d_Bo_hold_30 (by decide) ?_
        refine lv_aload_n hx hb d_Bo_hold_36 rfl (lv_at hl 1 rfl) ?_
        refine gx_getR (o' := 6) G hI cl_Bo (by decide) 3 (by decide) (by decide) fl_Bo_30 d_Bo_hold_37 ?_
        refine lv_aload_n hx hb d_Bo_hold_40 rfl (lv_at hl 1 rfl) ?_
        refine gx_getR (o' := 24) G hI cl_Bo (by decide) 2 (by decide) (by decide) fl_Bo_23 d_Bo_hold_41 ?_
        obtain ⟨σ_14, hc_15, hf⟩ := gx_bve hf
        refine gx_go (va_runV (As := [.ref (adr 24)]) (rest := []) G.1 (ct_Jn_write l D dA adr A hA N 24 σ_9 σ_14 hc_15) (cwV 1 ht gi_Bo_79 rfl rfl rfl (by decide +kernel) ⟨Nat.le_of_ble_eq_true rfl, Nat.le_of_ble_eq_true rfl⟩) (gx_preV G hI cl_Jn (by decide)) rfl rfl hl.1 rfl (lv_room (Nat.le_of_ble_eq_true rfl)) d_Bo_hold_44 ⟨Nat.zero_le _, Nat.zero_le _⟩) hI (st1 := []) rfl (fun H locs hI => ?_)
        refine lv_aload_n hx hb d_Bo_hold_47 rfl (lv_at hl 0 rfl) ?_
        refine gx_getI G hI cl_Jb (gx_ci_j hg_13) 0 (by decide) (gx_rf_j hg_13 0) fl_Bo_83 d_Bo_hold_48 ?_
        cases hf
        exact W.iret hx hb hr (gx_F hI) hI.2.2.2 d_Bo_hold_51
    · replace hf := (if_pos c_8).symm.trans hf
      refine lv_iconst (v := (-1)) hx hb d_Bo_hold_17 (by decide) ?_
      cases hf
      exact W.iret hx hb hr (gx_F hI) hI.2.2.2 d_Bo_hold_18
def fn_Bo_join (N : Nat) (p0 : Int32) (p1 : Int32) (σ : gx_M) : Option (Int32 × gx_M) := gx_bd (fn_Ro_find N 24 p0 σ) (fun x_3 σ_1 => gx_mt x_3 (gx_bd (fn_Ro_find N 24 p1 σ_1) (fun x_8 σ_6 => gx_mt x_8 (some ((-1 : Int32), σ_6)) (fun o_9 => if 42 ≤ o_9 ∧ o_9 < 722 then (some ((-1 : Int32), σ_6)) else none))) (fun o_4 => if 42 ≤ o_4 ∧ o_4 < 722 then (gx_bd (fn_Ro_find N 24 p1 σ_1) (fun x_13 σ_11 => gx_mt x_13 (some ((-1 : Int32), σ_11)) (fun o_14 => if 42 ≤ o_14 ∧ o_14 < 722 then (if p0 = p1 then (some ((-1 : Int32), σ_11)) else (gx_bd (fn_Jb_isLive N o_4 σ_11) (fun r_19 σ_17 => if r_19 = 0 then (some ((-1 : Int32), σ_17)) else (if (σ_17 o_4 7) = ((-1 : Int32)) then (if (σ_17 o_14 10) = ((6 : Int32)) then (gx_lt (gx_up σ_17 o_4 7 p1) (fun σ_23 => gx_lt (gx_up σ_23 o_14 8 ((σ_23 o_14 8) + ((1 : Int32)))) (fun σ_24 => gx_bv (fn_Jn_write N 24 σ_24) (fun σ_25 => some ((0 : Int32), σ_25))))) else (some ((-1 : Int32), σ_17))) else (some ((-1 : Int32), σ_17)))))) else none))) else none))
set_option maxHeartbeats 4000000 in
set_option maxRecDepth 100000 in
theorem ct_Bo_join (l : Launch) (D : va_G) (dA : Nat → ClassId) (adr : Nat → Nat) (A : Nat → Prop) (hA : gx_A A adr) (N : Nat) (p0 : Int32) (p1 : Int32) (σ : gx_M) (r : Int32) (σ' : gx_M) (hf : fn_Bo_join N p0 p1 σ = some (r, σ')) : Met l y_Bo_join w_Bo_join rm_Bo_join (gx_Pc D dA adr σ [.ref (adr 0), .int p0, .int p1]) (gx_Q D dA adr A (some (.int r)) σ') 0 0 A := by
  refine Met.ofW (cc := b_Bo_join) (maxL := 5) (ret := some .int) (by decide) rfl ?_
  intro p e s m args below meth c s₁ B hml hv
  obtain ⟨rfl, hP, hK⟩ := hv
  have hx := B.exec
  have hb := B.bytes
  have hr := B.returns
  have hlocks := B.notSynchronized
  have ht : ∀ w ∈ gx_tb, w.before _ s = true := fun w h => atoms_spec (ws := w_Bo_join) B.pre w (List.mem_cons_of_mem _ h)
  have hown : s.vm.findClass R_Bo = some m.cls := findClass_of_methodNamed B.named
  have G : gx_G p m c b_Bo_join 5 s _ gx_tb R_Bo D dA := ⟨⟨hx, hb, hml, hown, ht⟩, hK⟩
  have hI : gx_I D dA adr A s.heap σ s.heap [] := ⟨hP, va_S.rf⟩
  have hl := lv_entry ([.ref (adr 0), .int p0, .int p1]) (n := 5) (Nat.le_of_ble_eq_true rfl)
  rw [lg_entry_eq]
  generalize (lg_sl ([.ref (adr 0), .int p0, .int p1]) ++ List.replicate (5 - (lg_sl ([.ref (adr 0), .int p0, .int p1])).length) Slot.unset).toArray = ls at hl ⊢
  have hl : lv_has ls 5 [(0, .ref (adr 0)), (1, .int p0), (2, .int p1)] := hl
  rw [fn_Bo_join] at hf
  refine lv_aload_n hx hb d_Bo_join_0 rfl (lv_at hl 0 rfl) ?_
  refine gx_getR (o' := 24) G hI cl_Bo (by decide) 2 (by decide) (by decide) fl_Bo_23 d_Bo_join_1 ?_
  refine lv_iload_n hx hb d_Bo_join_4 rfl (lv_at hl 1 rfl) ?_
  obtain ⟨x_3, σ_1, hc_2, hf⟩ := gx_bde hf
  rcases x_3 with _ | o_4
  · replace hf := gx_mtn hf
    refine gx_go (va_runV (As := [.int p0]) (rest := []) G.1 (ct_Ro_find l D dA adr A hA N 24 p0 σ none σ_1 hc_2) (cwV 1 ht gi_Bo_86 rfl rfl rfl (by decide +kernel) ⟨Nat.le_of_ble_eq_true rfl, Nat.le_of_ble_eq_true rfl⟩) (gx_preV G hI cl_Ro (gx_ci_r (by decide))) rfl rfl hl.1 rfl (lv_room (Nat.le_of_ble_eq_true rfl)) d_Bo_join_5 ⟨Nat.zero_le _, Nat.zero_le _⟩) hI (st1 := [.null]) rfl (fun H locs hI => ?_)
    refine lv_astore_nN (i := 3) (lv' := [(3, .null), (0, .ref (adr 0)), (1, .int p0), (2, .int p1)]) hx hb d_Bo_join_8 rfl hl (by decide) rfl (fun ls hl => ?_)
    refine lv_aload_n hx hb d_Bo_join_9 rfl (lv_at hl 1 rfl) ?_
    refine gx_getR (o' := 24) G hI cl_Bo (by decide) 2 (by decide) (by decide) fl_Bo_23 d_Bo_join_10 ?_
    refine lv_iload_n hx hb d_Bo_join_13 rfl (lv_at hl 3 rfl) ?_
    obtain ⟨x_8, σ_6, hc_7, hf⟩ := gx_bde hf
    rcases x_8 with _ | o_9
    · replace hf := gx_mtn hf
      refine gx_go (va_runV (As := [.int p1]) (rest := []) G.1 (ct_Ro_find l D dA adr A hA N 24 p1 σ_1 none σ_6 hc_7) (cwV 1 ht gi_Bo_86 rfl rfl rfl (by decide +kernel) ⟨Nat.le_of_ble_eq_true rfl, Nat.le_of_ble_eq_true rfl⟩) (gx_preV G hI cl_Ro (gx_ci_r (by decide))) rfl rfl hl.1 rfl (lv_room (Nat.le_of_ble_eq_true rfl)) d_Bo_join_14 ⟨Nat.zero_le _, Nat.zero_le _⟩) hI (st1 := [.null]) rfl (fun H locs hI => ?_)
      refine lv_astoreN (i := 4) (lv' := [(4, .null), (3, .null), (0, .ref (adr 0)), (1, .int p0), (2, .int p1)]) hx hb d_Bo_join_17 hl (by decide) rfl (fun ls hl => ?_)
      refine lv_aload_nN hx hb d_Bo_join_19 rfl (lv_at hl 1 rfl) ?_
      refine lv_ifnullN (tgt := 33) hx hb d_Bo_join_20 (by decide) ?_
      refine lv_iconst (v := (-1)) hx hb d_Bo_join_33 (by decide) ?_
      cases hf
      exact W.iret hx hb hr (gx_F hI) hI.2.2.2 d_Bo_join_34
    · replace hf := gx_mts hf
      obtain ⟨hg_10, hf⟩ := gx_gd hf
      refine gx_go (va_runV (As := [.int p1]) (rest := []) G.1 (ct_Ro_find l D dA adr A hA N 24 p1 σ_1 (some o_9) σ_6 hc_7) (cwV 1 ht gi_Bo_86 rfl rfl rfl (by decide +kernel) ⟨Nat.le_of_ble_eq_true rfl, Nat.le_of_ble_eq_true rfl⟩) (gx_preV G hI cl_Ro (gx_ci_r (by decide))) rfl rfl hl.1 rfl (lv_room (Nat.le_of_ble_eq_true rfl)) d_Bo_join_14 ⟨Nat.zero_le _, Nat.zero_le _⟩) hI (st1 := [.ref (adr o_9)]) rfl (fun H locs hI => ?_)
      refine lv_astore (i := 4) (lv' := [(4, .ref (adr o_9)), (3, .null), (0, .ref (adr 0)), (1, .int p0), (2, .int p1)]) hx hb d_Bo_join_17 hl (by decide) rfl (fun ls hl => ?_)
      refine lv_aload_nN hx hb d_Bo_join_19 rfl (lv_at hl 1 rfl) ?_
      refine lv_ifnullN (tgt := 33) hx hb d_Bo_join_20 (by decide) ?_
      refine lv_iconst (v := (-1)) hx hb d_Bo_join_33 (by decide) ?_
      cases hf
      exact W.iret hx hb hr (gx_F hI) hI.2.2.2 d_Bo_join_34
  · replace hf := gx_mts hf
    obtain ⟨hg_5, hf⟩ := gx_gd hf
    refine gx_go (va_runV (As := [.int p0]) (rest := []) G.1 (ct_Ro_find l D dA adr A hA N 24 p0 σ (some o_4) σ_1 hc_2) (cwV 1 ht gi_Bo_86 rfl rfl rfl (by decide +kernel) ⟨Nat.le_of_ble_eq_true rfl, Nat.le_of_ble_eq_true rfl⟩) (gx_preV G hI cl_Ro (gx_ci_r (by decide))) rfl rfl hl.1 rfl (lv_room (Nat.le_of_ble_eq_true rfl)) d_Bo_join_5 ⟨Nat.zero_le _, Nat.zero_le _⟩) hI (st1 := [.ref (adr o_4)]) rfl (fun H locs hI => ?_)
    refine lv_astore_n (i := 3) (lv' := [(3, .ref (adr o_4)), (0, .ref (adr 0)), (1, .int p0), (2, .int p1)]) hx hb d_Bo_join_8 rfl hl (by decide) rfl (fun ls hl => ?_)
    refine lv_aload_n hx hb d_Bo_join_9 rfl (lv_at hl 1 rfl) ?_
    refine gx_getR (o' := 24) G hI cl_Bo (by decide) 2 (by decide) (by decide) fl_Bo_23 d_Bo_join_10 ?_
    refine lv_iload_n hx hb d_Bo_join_13 rfl (lv_at hl 3 rfl) ?_
    obtain ⟨x_13, σ_11, hc_12, hf⟩ := gx_bde hf
    rcases x_13 with _ | o_14
    · replace hf := gx_mtn hf
      refine gx_go (va_runV (As := [.int p1]) (rest := []) G.1 (ct_Ro_find l D dA adr A hA N 24 p1 σ_1 none σ_11 hc_12) (cwV 1 ht gi_Bo_86 rfl rfl rfl (by decide +kernel) ⟨Nat.le_of_ble_eq_true rfl, Nat.le_of_ble_eq_true rfl⟩) (gx_preV G hI cl_Ro (gx_ci_r (by decide))) rfl rfl hl.1 rfl (lv_room (Nat.le_of_ble_eq_true rfl)) d_Bo_join_14 ⟨Nat.zero_le _, Nat.zero_le _⟩) hI (st1 := [.null]) rfl (fun H locs hI => ?_)
      refine lv_astoreN (i := 4) (lv' := [(4, .null), (3, .ref (adr o_4)), (0, .ref (adr 0)), (1, .int p0), (2, .int p1)]) hx hb d_Bo_join_17 hl (by decide) rfl (fun ls hl => ?_)
      refine lv_aload_n hx hb d_Bo_join_19 rfl (lv_at hl 1 rfl) ?_
      refine lv_ifnull hx hb d_Bo_join_20 ?_
      refine lv_aloadN hx hb d_Bo_join_23 (lv_at hl 0 rfl) ?_
      refine lv_ifnullN (tgt := 33) hx hb d_Bo_join_25 (by decide) ?_
      refine lv_iconst (v := (-1)) hx hb d_Bo_join_33 (by decide) ?_
      cases hf
      exact W.iret hx hb hr (gx_F hI) hI.2.2.2 d_Bo_join_34
    · replace hf := gx_mts hf
      obtain ⟨hg_15, hf⟩ := gx_gd hf
      refine gx_go (va_runV (As := [.int p1]) (rest := []) G.1 (ct_Ro_find l D dA adr A hA N 24 p1 σ_1 (some o_14) σ_11 hc_12) (cwV 1 ht gi_Bo_86 rfl rfl rfl (by decide +kernel) ⟨Nat.le_of_ble_eq_true rfl, Nat.le_of_ble_eq_true rfl⟩) (gx_preV G hI cl_Ro (gx_ci_r (by decide))) rfl rfl hl.1 rfl (lv_room (Nat.le_of_ble_eq_true rfl)) d_Bo_join_14 ⟨Nat.zero_le _, Nat.zero_le _⟩) hI (st1 := [.ref (adr o_14)]) rfl (fun H locs hI => ?_)
      refine lv_astore (i := 4) (lv' := [(4, .ref (adr o_14)), (3, .ref (adr o_4)), (0, .ref (adr 0)), (1, .int p0), (2, .int p1)]) hx hb d_Bo_join_17 hl (by decide) rfl (fun ls hl => ?_)
      refine lv_aload_n hx hb d_Bo_join_19 rfl (lv_at hl 1 rfl) ?_
      refine lv_ifnull hx hb d_Bo_join_20 ?_
      refine lv_aload hx hb d_Bo_join_23 (lv_at hl 0 rfl) ?_
      refine lv_ifnull hx hb d_Bo_join_25 ?_
      refine lv_iload_n hx hb d_Bo_join_28 rfl (lv_at hl 3 rfl) ?_
      refine lv_iload_n hx hb d_Bo_join_29 rfl (lv_at hl 4 rfl) ?_
      refine lv_icmp_ne (tgt := 35) hx hb d_Bo_join_30 (by decide) (fun c_16 => ?_) (fun c_16 => ?_)
      · replace hf := (if_neg c_16).symm.trans hf
        refine lv_aload_n hx hb d_Bo_join_35 rfl (lv_at hl 1 rfl) ?_
        obtain ⟨r_19, σ_17, hc_18, hf⟩ := gx_bde hf
        refine gx_go (va_runV (As := []) (rest := []) G.1 (ct_Jb_isLive l D dA adr A hA N o_4 σ_11 r_19 σ_17 hc_18) (cwV 0 ht gi_Bo_90 rfl rfl rfl (by decide +kernel) ⟨Nat.le_of_ble_eq_true rfl, Nat.le_of_ble_eq_true rfl⟩) (gx_preV G hI cl_Jb (gx_ci_j hg_5)) rfl rfl hl.1 rfl (lv_room (Nat.le_of_ble_eq_true rfl)) d_Bo_join_36 ⟨Nat.zero_le _, Nat.zero_le _⟩) hI (st1 := [.int r_19]) rfl (fun H locs hI => ?_)
        refine lv_if_eq (tgt := 60) hx hb d_Bo_join_39 (by decide) (fun c_20 => ?_) (fun c_20 => ?_)
        · replace hf := (if_pos c_20).symm.trans hf
          refine lv_iconst (v := (-1)) hx hb d_Bo_join_60 (by decide) ?_
          cases hf
          exact W.iret hx hb hr (gx_F hI) hI.2.2.2 d_Bo_join_61
        · replace hf := (if_neg c_20).symm.trans hf
          refine lv_aload_n hx hb d_Bo_join_42 rfl (lv_at hl 1 rfl) ?_
          refine gx_getI G hI cl_Jb (gx_ci_j hg_5) 7 (by decide) (gx_rf_j hg_5 7) fl_Bo_94 d_Bo_join_43 ?_
          refine lv_iconst (v := (-1)) hx hb d_Bo_join_46 (by decide) ?_
          refine lv_icmp_ne (tgt := 60) hx hb d_Bo_join_47 (by decide) (fun c_21 => ?_) (fun c_21 => ?_)
          · replace hf := (if_neg c_21).symm.trans hf
            refine lv_iconst (v := (-1)) hx hb d_Bo_join_60 (by decide) ?_
            cases hf
            exact W.iret hx hb hr (gx_F hI) hI.2.2.2 d_Bo_join_61
          · replace hf := (if_pos c_21).symm.trans hf
            refine lv_aload hx hb d_Bo_join_50 (lv_at hl 0 rfl) ?_
            refine gx_getI G hI cl_Jb (gx_ci_j hg_15) 10 (by decide) (gx_rf_j hg_15 10) fl_Bo_97 d_Bo_join_52 ?_
            refine lv_bipush (v := 6) hx hb d_Bo_join_55 (by decide) ?_
            refine lv_icmp_eq (tgt := 62) hx hb d_Bo_join_57 (by decide) (fun c_22 => ?_) (fun c_22 => ?_)
            · replace hf := (if_pos c_22).symm.trans hf
              refine lv_aload_n hx hb d_Bo_join_62 rfl (lv_at hl 1 rfl) ?_
              refine lv_iload_n hx hb d_Bo_join_63 rfl (lv_at hl 4 rfl) ?_
              obtain ⟨σ_23, eσ_23, hf⟩ := gx_lte hf
              refine gx_put G hI hA cl_Jb (gx_ci_j hg_5) 7 (by decide) (gx_rf_j hg_5 7) fl_Bo_94 rfl rfl rfl eσ_23 d_Bo_join_64 (fun H locs hI => ?_)
              refine lv_aload hx hb d_Bo_join_67 (lv_at hl 0 rfl) ?_
              refine lv_dup hx hb d_Bo_join_69 rfl ?_
              refine gx_getI G hI cl_Jb (gx_ci_j hg_15) 8 (by decide) (gx_rf_j hg_15 8) fl_Bo_100 d_Bo_join_70 ?_
              refine lv_iconst (v := 1) hx hb d_Bo_join_73 (by decide) ?_
              refine lv_iadd hx hb d_Bo_join_74 ?_
              obtain ⟨σ_24, eσ_24, hf⟩ := gx_lte hf
              refine gx_put G hI hA cl_Jb (gx_ci_j hg_15) 8 (by decide) (gx_rf_j hg_15 8) fl_Bo_100 rfl rfl rfl eσ_24 d_Bo_join_75 (fun H locs hI => ?_)
              refine lv_aload_n hx hb d_Bo_join_78 rfl (lv_at hl 2 rfl) ?_
              refine gx_getR (o' := 6) G hI cl_Bo (by decide) 3 (by decide) (by decide) fl_Bo_30 d_Bo_join_79 ?_
              refine lv_aload_n hx hb d_Bo_join_82 rfl (lv_at hl 2 rfl) ?_
              refine gx_getR (o' := 24) G hI cl_Bo (by decide) 2 (by decide) (by decide) fl_Bo_23 d_Bo_join_83 ?_
              obtain ⟨σ_25, hc_26, hf⟩ := gx_bve hf
              refine gx_go (va_runV (As := [.ref (adr 24)]) (rest := []) G.1 (ct_Jn_write l D dA adr A hA N 24 σ_24 σ_25 hc_26) (cwV 1 ht gi_Bo_79 rfl rfl rfl (by decide +kernel) ⟨Nat.le_of_ble_eq_true rfl, Nat.le_of_ble_eq_true rfl⟩) (gx_preV G hI cl_Jn (by decide)) rfl rfl hl.1 rfl (lv_room (Nat.le_of_ble_eq_true rfl)) d_Bo_join_86 ⟨Nat.zero_le _, Nat.zero_le _⟩) hI (st1 := []) rfl (fun H locs hI => ?_)
              refine lv_iconst (v := 0) hx hb d_Bo_join_89 (by decide) ?_
              cases hf
              exact W.iret hx hb hr (gx_F hI) hI.2.2.2 d_Bo_join_90
            · replace hf := (if_neg c_22).symm.trans hf
              refine lv_iconst (v := (-1)) hx hb d_Bo_join_60 (by decide) ?_
              cases hf
              exact W.iret hx hb hr (gx_F hI) hI.2.2.2 d_Bo_join_61
      · replace hf := (if_pos c_16).symm.trans hf
        refine lv_iconst (v := (-1)) hx hb d_Bo_join_33 (by decide) ?_
        cases hf
        exact W.iret hx hb hr (gx_F hI) hI.2.2.2 d_Bo_join_34
