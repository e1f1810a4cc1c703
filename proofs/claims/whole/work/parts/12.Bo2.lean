theorem d_Bo_seal_0 : decode b_Bo_seal 0 = .ok (.aload_n 0, 1) := by decide +kernel
theorem d_Bo_seal_1 : decode b_Bo_seal 1 = .ok (.getfield 23, 3) := by decide +kernel
theorem d_Bo_seal_4 : decode b_Bo_seal 4 = .ok (.iload_n 1, 1) := by decide +kernel
theorem d_Bo_seal_5 : decode b_Bo_seal 5 = .ok (.invokevirtual 86, 3) := by decide +kernel
theorem d_Bo_seal_8 : decode b_Bo_seal 8 = .ok (.astore_n 2, 1) := by decide +kernel
theorem d_Bo_seal_9 : decode b_Bo_seal 9 = .ok (.aload_n 2, 1) := by decide +kernel
theorem d_Bo_seal_10 : decode b_Bo_seal 10 = .ok (.ifnull 19, 3) := by decide +kernel
theorem d_Bo_seal_13 : decode b_Bo_seal 13 = .ok (.aload_n 2, 1) := by decide +kernel
theorem d_Bo_seal_14 : decode b_Bo_seal 14 = .ok (.getfield 97, 3) := by decide +kernel
theorem d_Bo_seal_17 : decode b_Bo_seal 17 = .ok (.bipush 6, 2) := by decide +kernel
theorem d_Bo_seal_19 : decode b_Bo_seal 19 = .ok (.if_icmp .ne 10, 3) := by decide +kernel
theorem d_Bo_seal_22 : decode b_Bo_seal 22 = .ok (.aload_n 2, 1) := by decide +kernel
theorem d_Bo_seal_23 : decode b_Bo_seal 23 = .ok (.getfield 103, 3) := by decide +kernel
theorem d_Bo_seal_26 : decode b_Bo_seal 26 = .ok (.ifCond .eq 5, 3) := by decide +kernel
theorem d_Bo_seal_29 : decode b_Bo_seal 29 = .ok (.iconst (-1), 1) := by decide +kernel
theorem d_Bo_seal_30 : decode b_Bo_seal 30 = .ok (.ireturn, 1) := by decide +kernel
theorem d_Bo_seal_31 : decode b_Bo_seal 31 = .ok (.aload_n 2, 1) := by decide +kernel
theorem d_Bo_seal_32 : decode b_Bo_seal 32 = .ok (.iconst 1, 1) := by decide +kernel
theorem d_Bo_seal_33 : decode b_Bo_seal 33 = .ok (.putfield 103, 3) := by decide +kernel
theorem d_Bo_seal_36 : decode b_Bo_seal 36 = .ok (.aload_n 0, 1) := by decide +kernel
theorem d_Bo_seal_37 : decode b_Bo_seal 37 = .ok (.getfield 23, 3) := by decide +kernel
theorem d_Bo_seal_40 : decode b_Bo_seal 40 = .ok (.aload_n 2, 1) := by decide +kernel
theorem d_Bo_seal_41 : decode b_Bo_seal 41 = .ok (.invokevirtual 106, 3) := by decide +kernel
theorem d_Bo_seal_44 : decode b_Bo_seal 44 = .ok (.aload_n 0, 1) := by decide +kernel
theorem d_Bo_seal_45 : decode b_Bo_seal 45 = .ok (.getfield 30, 3) := by decide +kernel
theorem d_Bo_seal_48 : decode b_Bo_seal 48 = .ok (.aload_n 0, 1) := by decide +kernel
theorem d_Bo_seal_49 : decode b_Bo_seal 49 = .ok (.getfield 23, 3) := by decide +kernel
theorem d_Bo_seal_52 : decode b_Bo_seal 52 = .ok (.invokevirtual 79, 3) := by decide +kernel
theorem d_Bo_seal_55 : decode b_Bo_seal 55 = .ok (.iconst 0, 1) := by decide +kernel
theorem d_Bo_seal_56 : decode b_Bo_seal 56 = .ok (.ireturn, 1) := by decide +kernel
theorem d_Bo_take_0 : decode b_Bo_take 0 = .ok (.iload_n 1, 1) := by decide +kernel
theorem d_Bo_take_1 : decode b_Bo_take 1 = .ok (.invokestatic 110, 3) := by decide +kernel
theorem d_Bo_take_4 : decode b_Bo_take 4 = .ok (.ifCond .eq 24, 3) := by decide +kernel
theorem d_Bo_take_7 : decode b_Bo_take 7 = .ok (.iload_n 2, 1) := by decide +kernel
theorem d_Bo_take_8 : decode b_Bo_take 8 = .ok (.iconst 1, 1) := by decide +kernel
theorem d_Bo_take_9 : decode b_Bo_take 9 = .ok (.bipush 100, 2) := by decide +kernel
theorem d_Bo_take_11 : decode b_Bo_take 11 = .ok (.invokestatic 45, 3) := by decide +kernel
theorem d_Bo_take_14 : decode b_Bo_take 14 = .ok (.ifCond .eq 14, 3) := by decide +kernel
theorem d_Bo_take_17 : decode b_Bo_take 17 = .ok (.aload_n 0, 1) := by decide +kernel
theorem d_Bo_take_18 : decode b_Bo_take 18 = .ok (.getfield 23, 3) := by decide +kernel
theorem d_Bo_take_21 : decode b_Bo_take 21 = .ok (.iload_n 1, 1) := by decide +kernel
theorem d_Bo_take_22 : decode b_Bo_take 22 = .ok (.invokevirtual 113, 3) := by decide +kernel
theorem d_Bo_take_25 : decode b_Bo_take 25 = .ok (.ifnull 5, 3) := by decide +kernel
theorem d_Bo_take_28 : decode b_Bo_take 28 = .ok (.iconst (-1), 1) := by decide +kernel
theorem d_Bo_take_29 : decode b_Bo_take 29 = .ok (.ireturn, 1) := by decide +kernel
theorem d_Bo_take_30 : decode b_Bo_take 30 = .ok (.aload_n 0, 1) := by decide +kernel
theorem d_Bo_take_31 : decode b_Bo_take 31 = .ok (.getfield 9, 3) := by decide +kernel
theorem d_Bo_take_34 : decode b_Bo_take 34 = .ok (.ifCond .eq 10, 3) := by decide +kernel
theorem d_Bo_take_37 : decode b_Bo_take 37 = .ok (.aload_n 0, 1) := by decide +kernel
theorem d_Bo_take_38 : decode b_Bo_take 38 = .ok (.invokevirtual 116, 3) := by decide +kernel
theorem d_Bo_take_41 : decode b_Bo_take 41 = .ok (.goto 7, 3) := by decide +kernel
theorem d_Bo_take_44 : decode b_Bo_take 44 = .ok (.aload_n 0, 1) := by decide +kernel
theorem d_Bo_take_45 : decode b_Bo_take 45 = .ok (.invokevirtual 120, 3) := by decide +kernel
theorem d_Bo_take_48 : decode b_Bo_take 48 = .ok (.istore_n 3, 1) := by decide +kernel
theorem d_Bo_take_49 : decode b_Bo_take 49 = .ok (.iload_n 3, 1) := by decide +kernel
theorem d_Bo_take_50 : decode b_Bo_take 50 = .ok (.bipush (-4), 2) := by decide +kernel
theorem d_Bo_take_52 : decode b_Bo_take 52 = .ok (.if_icmp .ne 7, 3) := by decide +kernel
theorem d_Bo_take_55 : decode b_Bo_take 55 = .ok (.aconst_null, 1) := by decide +kernel
theorem d_Bo_take_56 : decode b_Bo_take 56 = .ok (.goto 12, 3) := by decide +kernel
theorem d_Bo_take_59 : decode b_Bo_take 59 = .ok (.aload_n 0, 1) := by decide +kernel
theorem d_Bo_take_60 : decode b_Bo_take 60 = .ok (.getfield 23, 3) := by decide +kernel
theorem d_Bo_take_63 : decode b_Bo_take 63 = .ok (.iload_n 3, 1) := by decide +kernel
theorem d_Bo_take_64 : decode b_Bo_take 64 = .ok (.aconst_null, 1) := by decide +kernel
theorem d_Bo_take_65 : decode b_Bo_take 65 = .ok (.invokevirtual 123, 3) := by decide +kernel
theorem d_Bo_take_68 : decode b_Bo_take 68 = .ok (.astore 4, 2) := by decide +kernel
theorem d_Bo_take_70 : decode b_Bo_take 70 = .ok (.aload 4, 2) := by decide +kernel
theorem d_Bo_take_72 : decode b_Bo_take 72 = .ok (.ifnonnull 6, 3) := by decide +kernel
theorem d_Bo_take_75 : decode b_Bo_take 75 = .ok (.bipush (-4), 2) := by decide +kernel
theorem d_Bo_take_77 : decode b_Bo_take 77 = .ok (.ireturn, 1) := by decide +kernel
theorem d_Bo_take_78 : decode b_Bo_take 78 = .ok (.aload_n 0, 1) := by decide +kernel
theorem d_Bo_take_79 : decode b_Bo_take 79 = .ok (.getfield 15, 3) := by decide +kernel
theorem d_Bo_take_82 : decode b_Bo_take 82 = .ok (.iload_n 3, 1) := by decide +kernel
theorem d_Bo_take_83 : decode b_Bo_take 83 = .ok (.aaload, 1) := by decide +kernel
theorem d_Bo_take_84 : decode b_Bo_take 84 = .ok (.invokevirtual 127, 3) := by decide +kernel
theorem d_Bo_take_87 : decode b_Bo_take 87 = .ok (.aload 4, 2) := by decide +kernel
theorem d_Bo_take_89 : decode b_Bo_take 89 = .ok (.iload_n 1, 1) := by decide +kernel
theorem d_Bo_take_90 : decode b_Bo_take 90 = .ok (.putfield 130, 3) := by decide +kernel
theorem d_Bo_take_93 : decode b_Bo_take 93 = .ok (.aload 4, 2) := by decide +kernel
theorem d_Bo_take_95 : decode b_Bo_take 95 = .ok (.iconst 2, 1) := by decide +kernel
theorem d_Bo_take_96 : decode b_Bo_take 96 = .ok (.aload_n 0, 1) := by decide +kernel
theorem d_Bo_take_97 : decode b_Bo_take 97 = .ok (.getfield 34, 3) := by decide +kernel
theorem d_Bo_take_100 : decode b_Bo_take 100 = .ok (.iload_n 2, 1) := by decide +kernel
theorem d_Bo_take_101 : decode b_Bo_take 101 = .ok (.iadd, 1) := by decide +kernel
theorem d_Bo_take_102 : decode b_Bo_take 102 = .ok (.invokevirtual 75, 3) := by decide +kernel
theorem d_Bo_take_105 : decode b_Bo_take 105 = .ok (.aload_n 0, 1) := by decide +kernel
theorem d_Bo_take_106 : decode b_Bo_take 106 = .ok (.getfield 30, 3) := by decide +kernel
theorem d_Bo_take_109 : decode b_Bo_take 109 = .ok (.aload_n 0, 1) := by decide +kernel
theorem d_Bo_take_110 : decode b_Bo_take 110 = .ok (.getfield 23, 3) := by decide +kernel
theorem d_Bo_take_113 : decode b_Bo_take 113 = .ok (.invokevirtual 79, 3) := by decide +kernel
theorem d_Bo_take_116 : decode b_Bo_take 116 = .ok (.aload 4, 2) := by decide +kernel
theorem d_Bo_take_118 : decode b_Bo_take 118 = .ok (.getfield 83, 3) := by decide +kernel
theorem d_Bo_take_121 : decode b_Bo_take 121 = .ok (.ireturn, 1) := by decide +kernel
theorem d_Bo_ack_0 : decode b_Bo_ack 0 = .ok (.aload_n 0, 1) := by decide +kernel
theorem d_Bo_ack_1 : decode b_Bo_ack 1 = .ok (.getfield 23, 3) := by decide +kernel
theorem d_Bo_ack_4 : decode b_Bo_ack 4 = .ok (.iload_n 1, 1) := by decide +kernel
theorem d_Bo_ack_5 : decode b_Bo_ack 5 = .ok (.invokevirtual 113, 3) := by decide +kernel
theorem d_Bo_ack_8 : decode b_Bo_ack 8 = .ok (.astore_n 2, 1) := by decide +kernel
theorem d_Bo_ack_9 : decode b_Bo_ack 9 = .ok (.aload_n 2, 1) := by decide +kernel
theorem d_Bo_ack_10 : decode b_Bo_ack 10 = .ok (.ifnonnull 5, 3) := by decide +kernel
theorem d_Bo_ack_13 : decode b_Bo_ack 13 = .ok (.iconst (-1), 1) := by decide +kernel
theorem d_Bo_ack_14 : decode b_Bo_ack 14 = .ok (.ireturn, 1) := by decide +kernel
theorem d_Bo_ack_15 : decode b_Bo_ack 15 = .ok (.aload_n 2, 1) := by decide +kernel
theorem d_Bo_ack_16 : decode b_Bo_ack 16 = .ok (.iconst 4, 1) := by decide +kernel
theorem d_Bo_ack_17 : decode b_Bo_ack 17 = .ok (.putfield 97, 3) := by decide +kernel
theorem d_Bo_ack_20 : decode b_Bo_ack 20 = .ok (.aload_n 0, 1) := by decide +kernel
theorem d_Bo_ack_21 : decode b_Bo_ack 21 = .ok (.getfield 23, 3) := by decide +kernel
theorem d_Bo_ack_24 : decode b_Bo_ack 24 = .ok (.aload_n 2, 1) := by decide +kernel
theorem d_Bo_ack_25 : decode b_Bo_ack 25 = .ok (.getfield 94, 3) := by decide +kernel
theorem d_Bo_ack_28 : decode b_Bo_ack 28 = .ok (.invokevirtual 86, 3) := by decide +kernel
theorem d_Bo_ack_31 : decode b_Bo_ack 31 = .ok (.astore_n 3, 1) := by decide +kernel
theorem d_Bo_ack_32 : decode b_Bo_ack 32 = .ok (.aload_n 3, 1) := by decide +kernel
theorem d_Bo_ack_33 : decode b_Bo_ack 33 = .ok (.ifnull 21, 3) := by decide +kernel
theorem d_Bo_ack_36 : decode b_Bo_ack 36 = .ok (.aload_n 3, 1) := by decide +kernel
theorem d_Bo_ack_37 : decode b_Bo_ack 37 = .ok (.dup, 1) := by decide +kernel
theorem d_Bo_ack_38 : decode b_Bo_ack 38 = .ok (.getfield 100, 3) := by decide +kernel
theorem d_Bo_ack_41 : decode b_Bo_ack 41 = .ok (.iconst 1, 1) := by decide +kernel
theorem d_Bo_ack_42 : decode b_Bo_ack 42 = .ok (.isub, 1) := by decide +kernel
theorem d_Bo_ack_43 : decode b_Bo_ack 43 = .ok (.putfield 100, 3) := by decide +kernel
theorem d_Bo_ack_46 : decode b_Bo_ack 46 = .ok (.aload_n 0, 1) := by decide +kernel
theorem d_Bo_ack_47 : decode b_Bo_ack 47 = .ok (.getfield 23, 3) := by decide +kernel
theorem d_Bo_ack_50 : decode b_Bo_ack 50 = .ok (.aload_n 3, 1) := by decide +kernel
theorem d_Bo_ack_51 : decode b_Bo_ack 51 = .ok (.invokevirtual 106, 3) := by decide +kernel
theorem d_Bo_ack_54 : decode b_Bo_ack 54 = .ok (.aload_n 0, 1) := by decide +kernel
theorem d_Bo_ack_55 : decode b_Bo_ack 55 = .ok (.getfield 30, 3) := by decide +kernel
theorem d_Bo_ack_58 : decode b_Bo_ack 58 = .ok (.aload_n 0, 1) := by decide +kernel
theorem d_Bo_ack_59 : decode b_Bo_ack 59 = .ok (.getfield 23, 3) := by decide +kernel
theorem d_Bo_ack_62 : decode b_Bo_ack 62 = .ok (.invokevirtual 79, 3) := by decide +kernel
theorem d_Bo_ack_65 : decode b_Bo_ack 65 = .ok (.aload_n 2, 1) := by decide +kernel
theorem d_Bo_ack_66 : decode b_Bo_ack 66 = .ok (.getfield 83, 3) := by decide +kernel
theorem d_Bo_ack_69 : decode b_Bo_ack 69 = .ok (.ireturn, 1) := by decide +kernel
theorem d_Bo_fail_0 : decode b_Bo_fail 0 = .ok (.aload_n 0, 1) := by decide +kernel
theorem d_Bo_fail_1 : decode b_Bo_fail 1 = .ok (.getfield 23, 3) := by decide +kernel
theorem d_Bo_fail_4 : decode b_Bo_fail 4 = .ok (.iload_n 1, 1) := by decide +kernel
theorem d_Bo_fail_5 : decode b_Bo_fail 5 = .ok (.invokevirtual 113, 3) := by decide +kernel
theorem d_Bo_fail_8 : decode b_Bo_fail 8 = .ok (.astore_n 2, 1) := by decide +kernel
theorem d_Bo_fail_9 : decode b_Bo_fail 9 = .ok (.aload_n 2, 1) := by decide +kernel
theorem d_Bo_fail_10 : decode b_Bo_fail 10 = .ok (.ifnonnull 5, 3) := by decide +kernel
theorem d_Bo_fail_13 : decode b_Bo_fail 13 = .ok (.iconst (-1), 1) := by decide +kernel
theorem d_Bo_fail_14 : decode b_Bo_fail 14 = .ok (.ireturn, 1) := by decide +kernel
theorem d_Bo_fail_15 : decode b_Bo_fail 15 = .ok (.aload_n 0, 1) := by decide +kernel
theorem d_Bo_fail_16 : decode b_Bo_fail 16 = .ok (.getfield 23, 3) := by decide +kernel
theorem d_Bo_fail_19 : decode b_Bo_fail 19 = .ok (.aload_n 2, 1) := by decide +kernel
theorem d_Bo_fail_20 : decode b_Bo_fail 20 = .ok (.aload_n 0, 1) := by decide +kernel
theorem d_Bo_fail_21 : decode b_Bo_fail 21 = .ok (.getfield 34, 3) := by decide +kernel
theorem d_Bo_fail_24 : decode b_Bo_fail 24 = .ok (.invokevirtual 133, 3) := by decide +kernel
theorem d_Bo_fail_27 : decode b_Bo_fail 27 = .ok (.aload_n 0, 1) := by decide +kernel
theorem d_Bo_fail_28 : decode b_Bo_fail 28 = .ok (.getfield 30, 3) := by decide +kernel
theorem d_Bo_fail_31 : decode b_Bo_fail 31 = .ok (.aload_n 0, 1) := by decide +kernel
theorem d_Bo_fail_32 : decode b_Bo_fail 32 = .ok (.getfield 23, 3) := by decide +kernel
theorem d_Bo_fail_35 : decode b_Bo_fail 35 = .ok (.invokevirtual 79, 3) := by decide +kernel
theorem d_Bo_fail_38 : decode b_Bo_fail 38 = .ok (.aload_n 2, 1) := by decide +kernel
theorem d_Bo_fail_39 : decode b_Bo_fail 39 = .ok (.getfield 83, 3) := by decide +kernel
theorem d_Bo_fail_42 : decode b_Bo_fail 42 = .ok (.ireturn, 1) := by decide +kernel
theorem d_Bo_tick_0 : decode b_Bo_tick 0 = .ok (.iload_n 1, 1) := by decide +kernel
theorem d_Bo_tick_1 : decode b_Bo_tick 1 = .ok (.iconst 1, 1) := by decide +kernel
theorem d_Bo_tick_2 : decode b_Bo_tick 2 = .ok (.sipush 1000, 3) := by decide +kernel
theorem d_Bo_tick_5 : decode b_Bo_tick 5 = .ok (.invokestatic 45, 3) := by decide +kernel
theorem d_Bo_tick_8 : decode b_Bo_tick 8 = .ok (.ifCond .ne 5, 3) := by decide +kernel
theorem d_Bo_tick_11 : decode b_Bo_tick 11 = .ok (.iconst (-1), 1) := by decide +kernel
theorem d_Bo_tick_12 : decode b_Bo_tick 12 = .ok (.ireturn, 1) := by decide +kernel
theorem d_Bo_tick_13 : decode b_Bo_tick 13 = .ok (.iconst 0, 1) := by decide +kernel
theorem d_Bo_tick_14 : decode b_Bo_tick 14 = .ok (.istore_n 2, 1) := by decide +kernel
theorem d_Bo_tick_15 : decode b_Bo_tick 15 = .ok (.iload_n 2, 1) := by decide +kernel
theorem d_Bo_tick_16 : decode b_Bo_tick 16 = .ok (.iconst 4, 1) := by decide +kernel
theorem d_Bo_tick_17 : decode b_Bo_tick 17 = .ok (.if_icmp .ge 28, 3) := by decide +kernel
theorem d_Bo_tick_20 : decode b_Bo_tick 20 = .ok (.aload_n 0, 1) := by decide +kernel
theorem d_Bo_tick_21 : decode b_Bo_tick 21 = .ok (.getfield 15, 3) := by decide +kernel
theorem d_Bo_tick_24 : decode b_Bo_tick 24 = .ok (.iload_n 2, 1) := by decide +kernel
theorem d_Bo_tick_25 : decode b_Bo_tick 25 = .ok (.aaload, 1) := by decide +kernel
theorem d_Bo_tick_26 : decode b_Bo_tick 26 = .ok (.aload_n 0, 1) := by decide +kernel
theorem d_Bo_tick_27 : decode b_Bo_tick 27 = .ok (.getfield 34, 3) := by decide +kernel
theorem d_Bo_tick_30 : decode b_Bo_tick 30 = .ok (.aload_n 0, 1) := by decide +kernel
theorem d_Bo_tick_31 : decode b_Bo_tick 31 = .ok (.getfield 34, 3) := by decide +kernel
theorem d_Bo_tick_34 : decode b_Bo_tick 34 = .ok (.iload_n 1, 1) := by decide +kernel
theorem d_Bo_tick_35 : decode b_Bo_tick 35 = .ok (.iadd, 1) := by decide +kernel
theorem d_Bo_tick_36 : decode b_Bo_tick 36 = .ok (.invokevirtual 136, 3) := by decide +kernel
theorem d_Bo_tick_39 : decode b_Bo_tick 39 = .ok (.iinc 2 1, 3) := by decide +kernel
theorem d_Bo_tick_42 : decode b_Bo_tick 42 = .ok (.goto (-27), 3) := by decide +kernel
theorem d_Bo_tick_45 : decode b_Bo_tick 45 = .ok (.aload_n 0, 1) := by decide +kernel
theorem d_Bo_tick_46 : decode b_Bo_tick 46 = .ok (.dup, 1) := by decide +kernel
theorem d_Bo_tick_47 : decode b_Bo_tick 47 = .ok (.getfield 34, 3) := by decide +kernel
theorem d_Bo_tick_50 : decode b_Bo_tick 50 = .ok (.iload_n 1, 1) := by decide +kernel
theorem d_Bo_tick_51 : decode b_Bo_tick 51 = .ok (.iadd, 1) := by decide +kernel
theorem d_Bo_tick_52 : decode b_Bo_tick 52 = .ok (.putfield 34, 3) := by decide +kernel
theorem d_Bo_tick_55 : decode b_Bo_tick 55 = .ok (.aload_n 0, 1) := by decide +kernel
theorem d_Bo_tick_56 : decode b_Bo_tick 56 = .ok (.getfield 23, 3) := by decide +kernel
theorem d_Bo_tick_59 : decode b_Bo_tick 59 = .ok (.aload_n 0, 1) := by decide +kernel
theorem d_Bo_tick_60 : decode b_Bo_tick 60 = .ok (.getfield 34, 3) := by decide +kernel
theorem d_Bo_tick_63 : decode b_Bo_tick 63 = .ok (.invokevirtual 139, 3) := by decide +kernel
theorem d_Bo_tick_66 : decode b_Bo_tick 66 = .ok (.istore_n 2, 1) := by decide +kernel
theorem d_Bo_tick_67 : decode b_Bo_tick 67 = .ok (.iload_n 2, 1) := by decide +kernel
theorem d_Bo_tick_68 : decode b_Bo_tick 68 = .ok (.ifCond .le 14, 3) := by decide +kernel
theorem d_Bo_tick_71 : decode b_Bo_tick 71 = .ok (.aload_n 0, 1) := by decide +kernel
theorem d_Bo_tick_72 : decode b_Bo_tick 72 = .ok (.getfield 30, 3) := by decide +kernel
theorem d_Bo_tick_75 : decode b_Bo_tick 75 = .ok (.aload_n 0, 1) := by decide +kernel
theorem d_Bo_tick_76 : decode b_Bo_tick 76 = .ok (.getfield 23, 3) := by decide +kernel
theorem d_Bo_tick_79 : decode b_Bo_tick 79 = .ok (.invokevirtual 79, 3) := by decide +kernel
theorem d_Bo_tick_82 : decode b_Bo_tick 82 = .ok (.iload_n 2, 1) := by decide +kernel
theorem d_Bo_tick_83 : decode b_Bo_tick 83 = .ok (.ireturn, 1) := by decide +kernel
theorem d_Bo_revive_0 : decode b_Bo_revive 0 = .ok (.aload_n 0, 1) := by decide +kernel
theorem d_Bo_revive_1 : decode b_Bo_revive 1 = .ok (.getfield 23, 3) := by decide +kernel
theorem d_Bo_revive_4 : decode b_Bo_revive 4 = .ok (.iload_n 1, 1) := by decide +kernel
theorem d_Bo_revive_5 : decode b_Bo_revive 5 = .ok (.invokevirtual 86, 3) := by decide +kernel
theorem d_Bo_revive_8 : decode b_Bo_revive 8 = .ok (.astore_n 2, 1) := by decide +kernel
theorem d_Bo_revive_9 : decode b_Bo_revive 9 = .ok (.aload_n 2, 1) := by decide +kernel
theorem d_Bo_revive_10 : decode b_Bo_revive 10 = .ok (.ifnull 11, 3) := by decide +kernel
theorem d_Bo_revive_13 : decode b_Bo_revive 13 = .ok (.aload_n 2, 1) := by decide +kernel
theorem d_Bo_revive_14 : decode b_Bo_revive 14 = .ok (.getfield 97, 3) := by decide +kernel
theorem d_Bo_revive_17 : decode b_Bo_revive 17 = .ok (.iconst 5, 1) := by decide +kernel
theorem d_Bo_revive_18 : decode b_Bo_revive 18 = .ok (.if_icmp .eq 5, 3) := by decide +kernel
theorem d_Bo_revive_21 : decode b_Bo_revive 21 = .ok (.iconst (-1), 1) := by decide +kernel
theorem d_Bo_revive_22 : decode b_Bo_revive 22 = .ok (.ireturn, 1) := by decide +kernel
theorem d_Bo_revive_23 : decode b_Bo_revive 23 = .ok (.aload_n 0, 1) := by decide +kernel
theorem d_Bo_revive_24 : decode b_Bo_revive 24 = .ok (.getfield 23, 3) := by decide +kernel
theorem d_Bo_revive_27 : decode b_Bo_revive 27 = .ok (.aload_n 2, 1) := by decide +kernel
theorem d_Bo_revive_28 : decode b_Bo_revive 28 = .ok (.getfield 68, 3) := by decide +kernel
theorem d_Bo_revive_31 : decode b_Bo_revive 31 = .ok (.invokevirtual 53, 3) := by decide +kernel
theorem d_Bo_revive_34 : decode b_Bo_revive 34 = .ok (.ifCond .eq 6, 3) := by decide +kernel
theorem d_Bo_revive_37 : decode b_Bo_revive 37 = .ok (.bipush (-3), 2) := by decide +kernel
theorem d_Bo_revive_39 : decode b_Bo_revive 39 = .ok (.ireturn, 1) := by decide +kernel
theorem d_Bo_revive_40 : decode b_Bo_revive 40 = .ok (.aload_n 2, 1) := by decide +kernel
theorem d_Bo_revive_41 : decode b_Bo_revive 41 = .ok (.iconst 0, 1) := by decide +kernel
theorem d_Bo_revive_42 : decode b_Bo_revive 42 = .ok (.putfield 143, 3) := by decide +kernel
theorem d_Bo_revive_45 : decode b_Bo_revive 45 = .ok (.aload_n 0, 1) := by decide +kernel
theorem d_Bo_revive_46 : decode b_Bo_revive 46 = .ok (.getfield 23, 3) := by decide +kernel
theorem d_Bo_revive_49 : decode b_Bo_revive 49 = .ok (.aload_n 2, 1) := by decide +kernel
theorem d_Bo_revive_50 : decode b_Bo_revive 50 = .ok (.iconst 1, 1) := by decide +kernel
theorem d_Bo_revive_51 : decode b_Bo_revive 51 = .ok (.invokevirtual 71, 3) := by decide +kernel
theorem d_Bo_revive_54 : decode b_Bo_revive 54 = .ok (.aload_n 0, 1) := by decide +kernel
theorem d_Bo_revive_55 : decode b_Bo_revive 55 = .ok (.getfield 30, 3) := by decide +kernel
theorem d_Bo_revive_58 : decode b_Bo_revive 58 = .ok (.aload_n 0, 1) := by decide +kernel
theorem d_Bo_revive_59 : decode b_Bo_revive 59 = .ok (.getfield 23, 3) := by decide +kernel
theorem d_Bo_revive_62 : decode b_Bo_revive 62 = .ok (.invokevirtual 79, 3) := by decide +kernel
theorem d_Bo_revive_65 : decode b_Bo_revive 65 = .ok (.iconst 0, 1) := by decide +kernel
theorem d_Bo_revive_66 : decode b_Bo_revive 66 = .ok (.ireturn, 1) := by decide +kernel
theorem d_Bo_kill_0 : decode b_Bo_kill 0 = .ok (.aload_n 0, 1) := by decide +kernel
theorem d_Bo_kill_1 : decode b_Bo_kill 1 = .ok (.getfield 23, 3) := by decide +kernel
theorem d_Bo_kill_4 : decode b_Bo_kill 4 = .ok (.iload_n 1, 1) := by decide +kernel
theorem d_Bo_kill_5 : decode b_Bo_kill 5 = .ok (.invokevirtual 86, 3) := by decide +kernel
theorem d_Bo_kill_8 : decode b_Bo_kill 8 = .ok (.astore_n 2, 1) := by decide +kernel
theorem d_Bo_kill_9 : decode b_Bo_kill 9 = .ok (.aload_n 2, 1) := by decide +kernel
theorem d_Bo_kill_10 : decode b_Bo_kill 10 = .ok (.ifnull 18, 3) := by decide +kernel
theorem d_Bo_kill_13 : decode b_Bo_kill 13 = .ok (.aload_n 2, 1) := by decide +kernel
theorem d_Bo_kill_14 : decode b_Bo_kill 14 = .ok (.invokevirtual 90, 3) := by decide +kernel
theorem d_Bo_kill_17 : decode b_Bo_kill 17 = .ok (.ifCond .eq 11, 3) := by decide +kernel
theorem d_Bo_kill_20 : decode b_Bo_kill 20 = .ok (.aload_n 2, 1) := by decide +kernel
theorem d_Bo_kill_21 : decode b_Bo_kill 21 = .ok (.getfield 97, 3) := by decide +kernel
theorem d_Bo_kill_24 : decode b_Bo_kill 24 = .ok (.iconst 2, 1) := by decide +kernel
theorem d_Bo_kill_25 : decode b_Bo_kill 25 = .ok (.if_icmp .ne 5, 3) := by decide +kernel
theorem d_Bo_kill_28 : decode b_Bo_kill 28 = .ok (.iconst (-1), 1) := by decide +kernel
theorem d_Bo_kill_29 : decode b_Bo_kill 29 = .ok (.ireturn, 1) := by decide +kernel
theorem d_Bo_kill_30 : decode b_Bo_kill 30 = .ok (.aload_n 0, 1) := by decide +kernel
theorem d_Bo_kill_31 : decode b_Bo_kill 31 = .ok (.getfield 23, 3) := by decide +kernel
theorem d_Bo_kill_34 : decode b_Bo_kill 34 = .ok (.aload_n 2, 1) := by decide +kernel
theorem d_Bo_kill_35 : decode b_Bo_kill 35 = .ok (.invokevirtual 146, 3) := by decide +kernel
theorem d_Bo_kill_38 : decode b_Bo_kill 38 = .ok (.aload_n 0, 1) := by decide +kernel
theorem d_Bo_kill_39 : decode b_Bo_kill 39 = .ok (.getfield 30, 3) := by decide +kernel
theorem d_Bo_kill_42 : decode b_Bo_kill 42 = .ok (.aload_n 0, 1) := by decide +kernel
theorem d_Bo_kill_43 : decode b_Bo_kill 43 = .ok (.getfield 23, 3) := by decide +kernel
theorem d_Bo_kill_46 : decode b_Bo_kill 46 = .ok (.invokevirtual 79, 3) := by decide +kernel
theorem d_Bo_kill_49 : decode b_Bo_kill 49 = .ok (.iconst 0, 1) := by decide +kernel
theorem d_Bo_kill_50 : decode b_Bo_kill 50 = .ok (.ireturn, 1) := by decide +kernel
theorem d_Bo_flush_0 : decode b_Bo_flush 0 = .ok (.aload_n 0, 1) := by decide +kernel
theorem d_Bo_flush_1 : decode b_Bo_flush 1 = .ok (.getfield 30, 3) := by decide +kernel
theorem d_Bo_flush_4 : decode b_Bo_flush 4 = .ok (.aload_n 0, 1) := by decide +kernel
theorem d_Bo_flush_5 : decode b_Bo_flush 5 = .ok (.getfield 23, 3) := by decide +kernel
theorem d_Bo_flush_8 : decode b_Bo_flush 8 = .ok (.invokevirtual 149, 3) := by decide +kernel
theorem d_Bo_flush_11 : decode b_Bo_flush 11 = .ok (.ireturn, 1) := by decide +kernel
theorem d_Bo_crash_0 : decode b_Bo_crash 0 = .ok (.aload_n 0, 1) := by decide +kernel
theorem d_Bo_crash_1 : decode b_Bo_crash 1 = .ok (.getfield 30, 3) := by decide +kernel
theorem d_Bo_crash_4 : decode b_Bo_crash 4 = .ok (.aload_n 0, 1) := by decide +kernel
theorem d_Bo_crash_5 : decode b_Bo_crash 5 = .ok (.getfield 23, 3) := by decide +kernel
theorem d_Bo_crash_8 : decode b_Bo_crash 8 = .ok (.iload_n 1, 1) := by decide +kernel
theorem d_Bo_crash_9 : decode b_Bo_crash 9 = .ok (.invokevirtual 153, 3) := by decide +kernel
theorem d_Bo_crash_12 : decode b_Bo_crash 12 = .ok (.istore_n 2, 1) := by decide +kernel
theorem d_Bo_crash_13 : decode b_Bo_crash 13 = .ok (.aload_n 0, 1) := by decide +kernel
theorem d_Bo_crash_14 : decode b_Bo_crash 14 = .ok (.getfield 23, 3) := by decide +kernel
theorem d_Bo_crash_17 : decode b_Bo_crash 17 = .ok (.invokevirtual 157, 3) := by decide +kernel
theorem d_Bo_crash_20 : decode b_Bo_crash 20 = .ok (.aload_n 0, 1) := by decide +kernel
theorem d_Bo_crash_21 : decode b_Bo_crash 21 = .ok (.getfield 23, 3) := by decide +kernel
theorem d_Bo_crash_24 : decode b_Bo_crash 24 = .ok (.aload_n 0, 1) := by decide +kernel
theorem d_Bo_crash_25 : decode b_Bo_crash 25 = .ok (.getfield 34, 3) := by decide +kernel
theorem d_Bo_crash_28 : decode b_Bo_crash 28 = .ok (.invokevirtual 139, 3) := by decide +kernel
theorem d_Bo_crash_31 : decode b_Bo_crash 31 = .ok (.pop, 1) := by decide +kernel
theorem d_Bo_crash_32 : decode b_Bo_crash 32 = .ok (.iconst 0, 1) := by decide +kernel
theorem d_Bo_crash_33 : decode b_Bo_crash 33 = .ok (.istore_n 3, 1) := by decide +kernel
theorem d_Bo_crash_34 : decode b_Bo_crash 34 = .ok (.iload_n 3, 1) := by decide +kernel
theorem d_Bo_crash_35 : decode b_Bo_crash 35 = .ok (.iconst 4, 1) := by decide +kernel
theorem d_Bo_crash_36 : decode b_Bo_crash 36 = .ok (.if_icmp .ge 18, 3) := by decide +kernel
theorem d_Bo_crash_39 : decode b_Bo_crash 39 = .ok (.aload_n 0, 1) := by decide +kernel
theorem d_Bo_crash_40 : decode b_Bo_crash 40 = .ok (.getfield 15, 3) := by decide +kernel
theorem d_Bo_crash_43 : decode b_Bo_crash 43 = .ok (.iload_n 3, 1) := by decide +kernel
theorem d_Bo_crash_44 : decode b_Bo_crash 44 = .ok (.aaload, 1) := by decide +kernel
theorem d_Bo_crash_45 : decode b_Bo_crash 45 = .ok (.invokevirtual 160, 3) := by decide +kernel
theorem d_Bo_crash_48 : decode b_Bo_crash 48 = .ok (.iinc 3 1, 3) := by decide +kernel
theorem d_Bo_crash_51 : decode b_Bo_crash 51 = .ok (.goto (-17), 3) := by decide +kernel
theorem d_Bo_crash_54 : decode b_Bo_crash 54 = .ok (.aload_n 0, 1) := by decide +kernel
theorem d_Bo_crash_55 : decode b_Bo_crash 55 = .ok (.iconst (-1), 1) := by decide +kernel
theorem d_Bo_crash_56 : decode b_Bo_crash 56 = .ok (.putfield 38, 3) := by decide +kernel
theorem d_Bo_crash_59 : decode b_Bo_crash 59 = .ok (.aload_n 0, 1) := by decide +kernel
theorem d_Bo_crash_60 : decode b_Bo_crash 60 = .ok (.getfield 30, 3) := by decide +kernel
theorem d_Bo_crash_63 : decode b_Bo_crash 63 = .ok (.aload_n 0, 1) := by decide +kernel
theorem d_Bo_crash_64 : decode b_Bo_crash 64 = .ok (.getfield 23, 3) := by decide +kernel
theorem d_Bo_crash_67 : decode b_Bo_crash 67 = .ok (.invokevirtual 149, 3) := by decide +kernel
theorem d_Bo_crash_70 : decode b_Bo_crash 70 = .ok (.pop, 1) := by decide +kernel
theorem d_Bo_crash_71 : decode b_Bo_crash 71 = .ok (.iload_n 2, 1) := by decide +kernel
theorem d_Bo_crash_72 : decode b_Bo_crash 72 = .ok (.ireturn, 1) := by decide +kernel
theorem d_Bo_state_0 : decode b_Bo_state 0 = .ok (.aload_n 0, 1) := by decide +kernel
theorem d_Bo_state_1 : decode b_Bo_state 1 = .ok (.getfield 23, 3) := by decide +kernel
theorem d_Bo_state_4 : decode b_Bo_state 4 = .ok (.iload_n 1, 1) := by decide +kernel
theorem d_Bo_state_5 : decode b_Bo_state 5 = .ok (.invokevirtual 86, 3) := by decide +kernel
theorem d_Bo_state_8 : decode b_Bo_state 8 = .ok (.astore_n 2, 1) := by decide +kernel
theorem d_Bo_state_9 : decode b_Bo_state 9 = .ok (.aload_n 2, 1) := by decide +kernel
theorem d_Bo_state_10 : decode b_Bo_state 10 = .ok (.ifnonnull 7, 3) := by decide +kernel
theorem d_Bo_state_13 : decode b_Bo_state 13 = .ok (.iconst (-1), 1) := by decide +kernel
theorem d_Bo_state_14 : decode b_Bo_state 14 = .ok (.goto 7, 3) := by decide +kernel
theorem d_Bo_state_17 : decode b_Bo_state 17 = .ok (.aload_n 2, 1) := by decide +kernel
theorem d_Bo_state_18 : decode b_Bo_state 18 = .ok (.getfield 97, 3) := by decide +kernel
theorem d_Bo_state_21 : decode b_Bo_state 21 = .ok (.ireturn, 1) := by decide +kernel
theorem d_Bo_failures_0 : decode b_Bo_failures 0 = .ok (.aload_n 0, 1) := by decide +kernel
theorem d_Bo_failures_1 : decode b_Bo_failures 1 = .ok (.getfield 23, 3) := by decide +kernel
theorem d_Bo_failures_4 : decode b_Bo_failures 4 = .ok (.iload_n 1, 1) := by decide +kernel
theorem d_Bo_failures_5 : decode b_Bo_failures 5 = .ok (.invokevirtual 86, 3) := by decide +kernel
theorem d_Bo_failures_8 : decode b_Bo_failures 8 = .ok (.astore_n 2, 1) := by decide +kernel
theorem d_Bo_failures_9 : decode b_Bo_failures 9 = .ok (.aload_n 2, 1) := by decide +kernel
theorem d_Bo_failures_10 : decode b_Bo_failures 10 = .ok (.ifnonnull 7, 3) := by decide +kernel
theorem d_Bo_failures_13 : decode b_Bo_failures 13 = .ok (.iconst (-1), 1) := by decide +kernel
theorem d_Bo_failures_14 : decode b_Bo_failures 14 = .ok (.goto 7, 3) := by decide +kernel
theorem d_Bo_failures_17 : decode b_Bo_failures 17 = .ok (.aload_n 2, 1) := by decide +kernel
theorem d_Bo_failures_18 : decode b_Bo_failures 18 = .ok (.getfield 143, 3) := by decide +kernel
theorem d_Bo_failures_21 : decode b_Bo_failures 21 = .ok (.ireturn, 1) := by decide +kernel
theorem d_Bo_due_0 : decode b_Bo_due 0 = .ok (.aload_n 0, 1) := by decide +kernel
theorem d_Bo_due_1 : decode b_Bo_due 1 = .ok (.getfield 23, 3) := by decide +kernel
theorem d_Bo_due_4 : decode b_Bo_due 4 = .ok (.iload_n 1, 1) := by decide +kernel
theorem d_Bo_due_5 : decode b_Bo_due 5 = .ok (.invokevirtual 86, 3) := by decide +kernel
theorem d_Bo_due_8 : decode b_Bo_due 8 = .ok (.astore_n 2, 1) := by decide +kernel
theorem d_Bo_due_9 : decode b_Bo_due 9 = .ok (.aload_n 2, 1) := by decide +kernel
theorem d_Bo_due_10 : decode b_Bo_due 10 = .ok (.ifnonnull 5, 3) := by decide +kernel
theorem d_Bo_due_13 : decode b_Bo_due 13 = .ok (.iconst (-1), 1) := by decide +kernel
theorem d_Bo_due_14 : decode b_Bo_due 14 = .ok (.ireturn, 1) := by decide +kernel
theorem d_Bo_due_15 : decode b_Bo_due 15 = .ok (.aload_n 2, 1) := by decide +kernel
theorem d_Bo_due_16 : decode b_Bo_due 16 = .ok (.getfield 97, 3) := by decide +kernel
theorem d_Bo_due_19 : decode b_Bo_due 19 = .ok (.bipush 6, 2) := by decide +kernel
theorem d_Bo_due_21 : decode b_Bo_due 21 = .ok (.if_icmp .ne 8, 3) := by decide +kernel
theorem d_Bo_due_24 : decode b_Bo_due 24 = .ok (.aload_n 2, 1) := by decide +kernel
theorem d_Bo_due_25 : decode b_Bo_due 25 = .ok (.getfield 100, 3) := by decide +kernel
theorem d_Bo_due_28 : decode b_Bo_due 28 = .ok (.ireturn, 1) := by decide +kernel
theorem d_Bo_due_29 : decode b_Bo_due 29 = .ok (.aload_n 2, 1) := by decide +kernel
theorem d_Bo_due_30 : decode b_Bo_due 30 = .ok (.invokevirtual 163, 3) := by decide +kernel
theorem d_Bo_due_33 : decode b_Bo_due 33 = .ok (.ifCond .eq 10, 3) := by decide +kernel
theorem d_Bo_due_36 : decode b_Bo_due 36 = .ok (.aload_n 2, 1) := by decide +kernel
theorem d_Bo_due_37 : decode b_Bo_due 37 = .ok (.getfield 166, 3) := by decide +kernel
theorem d_Bo_due_40 : decode b_Bo_due 40 = .ok (.goto 5, 3) := by decide +kernel
theorem d_Bo_due_43 : decode b_Bo_due 43 = .ok (.bipush (-4), 2) := by decide +kernel
theorem d_Bo_due_45 : decode b_Bo_due 45 = .ok (.ireturn, 1) := by decide +kernel
theorem d_Bo_holding_0 : decode b_Bo_holding 0 = .ok (.iload_n 1, 1) := by decide +kernel
theorem d_Bo_holding_1 : decode b_Bo_holding 1 = .ok (.invokestatic 110, 3) := by decide +kernel
theorem d_Bo_holding_4 : decode b_Bo_holding 4 = .ok (.ifCond .ne 5, 3) := by decide +kernel
theorem d_Bo_holding_7 : decode b_Bo_holding 7 = .ok (.iconst (-1), 1) := by decide +kernel
theorem d_Bo_holding_8 : decode b_Bo_holding 8 = .ok (.ireturn, 1) := by decide +kernel
theorem d_Bo_holding_9 : decode b_Bo_holding 9 = .ok (.aload_n 0, 1) := by decide +kernel
theorem d_Bo_holding_10 : decode b_Bo_holding 10 = .ok (.getfield 23, 3) := by decide +kernel
theorem d_Bo_holding_13 : decode b_Bo_holding 13 = .ok (.iload_n 1, 1) := by decide +kernel
theorem d_Bo_holding_14 : decode b_Bo_holding 14 = .ok (.invokevirtual 113, 3) := by decide +kernel
theorem d_Bo_holding_17 : decode b_Bo_holding 17 = .ok (.invokestatic 169, 3) := by decide +kernel
theorem d_Bo_holding_20 : decode b_Bo_holding 20 = .ok (.ireturn, 1) := by decide +kernel
theorem d_Bo_line_0 : decode b_Bo_line 0 = .ok (.iload_n 1, 1) := by decide +kernel
theorem d_Bo_line_1 : decode b_Bo_line 1 = .ok (.invokestatic 41, 3) := by decide +kernel
theorem d_Bo_line_4 : decode b_Bo_line 4 = .ok (.ifCond .ne 5, 3) := by decide +kernel
theorem d_Bo_line_7 : decode b_Bo_line 7 = .ok (.iconst (-1), 1) := by decide +kernel
theorem d_Bo_line_8 : decode b_Bo_line 8 = .ok (.ireturn, 1) := by decide +kernel
theorem d_Bo_line_9 : decode b_Bo_line 9 = .ok (.iload_n 2, 1) := by decide +kernel
theorem d_Bo_line_10 : decode b_Bo_line 10 = .ok (.iconst 0, 1) := by decide +kernel
theorem d_Bo_line_11 : decode b_Bo_line 11 = .ok (.bipush 39, 2) := by decide +kernel
theorem d_Bo_line_13 : decode b_Bo_line 13 = .ok (.invokestatic 45, 3) := by decide +kernel
theorem d_Bo_line_16 : decode b_Bo_line 16 = .ok (.ifCond .eq 18, 3) := by decide +kernel
theorem d_Bo_line_19 : decode b_Bo_line 19 = .ok (.aload_n 0, 1) := by decide +kernel
theorem d_Bo_line_20 : decode b_Bo_line 20 = .ok (.getfield 23, 3) := by decide +kernel
theorem d_Bo_line_23 : decode b_Bo_line 23 = .ok (.iload_n 1, 1) := by decide +kernel
theorem d_Bo_line_24 : decode b_Bo_line 24 = .ok (.iload_n 2, 1) := by decide +kernel
theorem d_Bo_line_25 : decode b_Bo_line 25 = .ok (.invokevirtual 173, 3) := by decide +kernel
theorem d_Bo_line_28 : decode b_Bo_line 28 = .ok (.invokestatic 169, 3) := by decide +kernel
theorem d_Bo_line_31 : decode b_Bo_line 31 = .ok (.goto 5, 3) := by decide +kernel
theorem d_Bo_line_34 : decode b_Bo_line 34 = .ok (.bipush (-4), 2) := by decide +kernel
theorem d_Bo_line_36 : decode b_Bo_line 36 = .ok (.ireturn, 1) := by decide +kernel
theorem d_Bo_count_0 : decode b_Bo_count 0 = .ok (.iload_n 1, 1) := by decide +kernel
theorem d_Bo_count_1 : decode b_Bo_count 1 = .ok (.iconst 0, 1) := by decide +kernel
theorem d_Bo_count_2 : decode b_Bo_count 2 = .ok (.bipush 7, 2) := by decide +kernel
theorem d_Bo_count_4 : decode b_Bo_count 4 = .ok (.invokestatic 45, 3) := by decide +kernel
theorem d_Bo_count_7 : decode b_Bo_count 7 = .ok (.ifCond .eq 12, 3) := by decide +kernel
theorem d_Bo_count_10 : decode b_Bo_count 10 = .ok (.aload_n 0, 1) := by decide +kernel
theorem d_Bo_count_11 : decode b_Bo_count 11 = .ok (.getfield 23, 3) := by decide +kernel
theorem d_Bo_count_14 : decode b_Bo_count 14 = .ok (.iload_n 1, 1) := by decide +kernel
theorem d_Bo_count_15 : decode b_Bo_count 15 = .ok (.invokevirtual 176, 3) := by decide +kernel
theorem d_Bo_count_18 : decode b_Bo_count 18 = .ok (.ireturn, 1) := by decide +kernel
theorem d_Bo_count_19 : decode b_Bo_count 19 = .ok (.iload_n 1, 1) := by decide +kernel
theorem d_Bo_count_20 : decode b_Bo_count 20 = .ok (.bipush 11, 2) := by decide +kernel
theorem d_Bo_count_22 : decode b_Bo_count 22 = .ok (.bipush 14, 2) := by decide +kernel
theorem d_Bo_count_24 : decode b_Bo_count 24 = .ok (.invokestatic 45, 3) := by decide +kernel
theorem d_Bo_count_27 : decode b_Bo_count 27 = .ok (.ifCond .eq 16, 3) := by decide +kernel
theorem d_Bo_count_30 : decode b_Bo_count 30 = .ok (.aload_n 0, 1) := by decide +kernel
theorem d_Bo_count_31 : decode b_Bo_count 31 = .ok (.getfield 15, 3) := by decide +kernel
theorem d_Bo_count_34 : decode b_Bo_count 34 = .ok (.iload_n 1, 1) := by decide +kernel
theorem d_Bo_count_35 : decode b_Bo_count 35 = .ok (.bipush 11, 2) := by decide +kernel
theorem d_Bo_count_37 : decode b_Bo_count 37 = .ok (.isub, 1) := by decide +kernel
theorem d_Bo_count_38 : decode b_Bo_count 38 = .ok (.aaload, 1) := by decide +kernel
theorem d_Bo_count_39 : decode b_Bo_count 39 = .ok (.getfield 179, 3) := by decide +kernel
theorem d_Bo_count_42 : decode b_Bo_count 42 = .ok (.ireturn, 1) := by decide +kernel
theorem d_Bo_count_43 : decode b_Bo_count 43 = .ok (.iload_n 1, 1) := by decide +kernel
theorem d_Bo_count_44 : decode b_Bo_count 44 = .ok (.tableswitch 49 8 10 #[28, 36, 44], 28) := by decide +kernel
theorem d_Bo_count_72 : decode b_Bo_count 72 = .ok (.aload_n 0, 1) := by decide +kernel
theorem d_Bo_count_73 : decode b_Bo_count 73 = .ok (.getfield 23, 3) := by decide +kernel
theorem d_Bo_count_76 : decode b_Bo_count 76 = .ok (.getfield 182, 3) := by decide +kernel
theorem d_Bo_count_79 : decode b_Bo_count 79 = .ok (.ireturn, 1) := by decide +kernel
theorem d_Bo_count_80 : decode b_Bo_count 80 = .ok (.aload_n 0, 1) := by decide +kernel
theorem d_Bo_count_81 : decode b_Bo_count 81 = .ok (.getfield 30, 3) := by decide +kernel
theorem d_Bo_count_84 : decode b_Bo_count 84 = .ok (.getfield 185, 3) := by decide +kernel
theorem d_Bo_count_87 : decode b_Bo_count 87 = .ok (.ireturn, 1) := by decide +kernel
theorem d_Bo_count_88 : decode b_Bo_count 88 = .ok (.aload_n 0, 1) := by decide +kernel
theorem d_Bo_count_89 : decode b_Bo_count 89 = .ok (.getfield 34, 3) := by decide +kernel
theorem d_Bo_count_92 : decode b_Bo_count 92 = .ok (.ireturn, 1) := by decide +kernel
theorem d_Bo_count_93 : decode b_Bo_count 93 = .ok (.iconst (-1), 1) := by decide +kernel
theorem d_Bo_count_94 : decode b_Bo_count 94 = .ok (.ireturn, 1) := by decide +kernel
def fn_Bo_seal (N : Nat) (p0 : Int32) (σ : gx_M) : Option (Int32 × gx_M) := gx_bd (fn_Ro_find N 24 p0 σ) (fun x_3 σ_1 => gx_mt x_3 (some ((-1 : Int32), σ_1)) (fun o_4 => if 42 ≤ o_4 ∧ o_4 < 722 then (if (σ_1 o_4 10) = ((6 : Int32)) then (if (σ_1 o_4 9) = 0 then (gx_lt (gx_up σ_1 o_4 9 ((1 : Int32))) (fun σ_8 => gx_bv (fn_Ro_releaseIfComplete N 24 o_4 σ_8) (fun σ_9 => gx_bv (fn_Jn_write N 24 σ_9) (fun σ_11 => some ((0 : Int32), σ_11))))) else (some ((-1 : Int32), σ_1))) else (some ((-1 : Int32), σ_1))) else none))
set_option maxHeartbeats 4000000 in
set_option maxRecDepth 100000 in
theorem ct_Bo_seal (l : Launch) (D : va_G) (dA : Nat → ClassId) (adr : Nat → Nat) (A : Nat → Prop) (hA : gx_A A adr) (N : Nat) (p0 : Int32) (σ : gx_M) (r : Int32) (σ' : gx_M) (hf : fn_Bo_seal N p0 σ = some (r, σ')) : Met l y_Bo_seal w_Bo_seal rm_Bo_seal (gx_Pc D dA adr σ [.ref (adr 0), .int p0]) (gx_Q D dA adr A (some (.int r)) σ') 0 0 A := by
  refine Met.ofW (cc := b_Bo_seal) (maxL := 3) (ret := some .int) (by decide) rfl ?_
  intro p e s m args below meth c s₁ B hml hv
  obtain ⟨rfl, hP, hK⟩ := hv
  have hx := B.exec
  have hb := B.bytes
  have hr := B.returns
  have hlocks := B.notSynchronized
  have ht : ∀ w ∈ gx_tb, w.before _ s = true := fun w h => atoms_spec (ws := w_Bo_seal) B.pre w (List.mem_cons_of_mem _ h)
  have hown : s.vm.findClass R_Bo = some m.cls := findClass_of_methodNamed B.named
  have G : gx_G p m c b_Bo_seal 3 s _ gx_tb R_Bo D dA := ⟨⟨hx, hb, hml, hown, ht⟩, hK⟩
  have hI : gx_I D dA adr A s.heap σ s.heap [] := ⟨hP, va_S.rf⟩
  have hl := lv_entry ([.ref (adr 0), .int p0]) (n := 3) (Nat.le_of_ble_eq_true rfl)
  rw [lg_entry_eq]
  generalize (lg_sl ([.ref (adr 0), .int p0]) ++ List.replicate (3 - (lg_sl ([.ref (adr 0), .int p0])).length) Slot.unset).toArray = ls at hl ⊢
  have hl : lv_has ls 3 [(0, .ref (adr 0)), (1, .int p0)] := hl
  rw [fn_Bo_seal] at hf
  refine lv_aload_n hx hb d_Bo_seal_0 rfl (lv_at hl 0 rfl) ?_
  refine gx_getR (o' := 24) G hI cl_Bo (by decide) 2 (by decide) (by decide) fl_Bo_23 d_Bo_seal_1 ?_
  refine lv_iload_n hx hb d_Bo_seal_4 rfl (lv_at hl 1 rfl) ?_
  obtain ⟨x_3, σ_1, hc_2, hf⟩ := gx_bde hf
  rcases x_3 with _ | o_4
  · replace hf := gx_mtn hf
    refine gx_go (va_runV (As := [.int p0]) (rest := []) G.1 (ct_Ro_find l D dA adr A hA N 24 p0 σ none σ_1 hc_2) (cwV 1 ht gi_Bo_86 rfl rfl rfl (by decide +kernel) ⟨Nat.le_of_ble_eq_true rfl, Nat.le_of_ble_eq_true rfl⟩) (gx_preV G hI cl_Ro (gx_ci_r (by decide))) rfl rfl hl.1 rfl (lv_room (Nat.le_of_ble_eq_true rfl)) d_Bo_seal_5 ⟨Nat.zero_le _, Nat.zero_le _⟩) hI (st1 := [.null]) rfl (fun H locs hI => ?_)
    refine lv_astore_nN (i := 2) (lv' := [(2, .null), (0, .ref (adr 0)), (1, .int p0)]) hx hb d_Bo_seal_8 rfl hl (by decide) rfl (fun ls hl => ?_)
    refine lv_aload_nN hx hb d_Bo_seal_9 rfl (lv_at hl 0 rfl) ?_
    refine lv_ifnullN (tgt := 29) hx hb d_Bo_seal_10 (by decide) ?_
    refine lv_iconst (v := (-1)) hx hb d_Bo_seal_29 (by decide) ?_
    cases hf
    exact W.iret hx hb hr (gx_F hI) hI.2.2.2 d_Bo_seal_30
  · replace hf := gx_mts hf
    obtain ⟨hg_5, hf⟩ := gx_gd hf
    refine gx_go (va_runV (As := [.int p0]) (rest := []) G.1 (ct_Ro_find l D dA adr A hA N 24 p0 σ (some o_4) σ_1 hc_2) (cwV 1 ht gi_Bo_86 rfl rfl rfl (by decide +kernel) ⟨Nat.le_of_ble_eq_true rfl, Nat.le_of_ble_eq_true rfl⟩) (gx_preV G hI cl_Ro (gx_ci_r (by decide))) rfl rfl hl.1 rfl (lv_room (Nat.le_of_ble_eq_true rfl)) d_Bo_seal_5 ⟨Nat.zero_le _, Nat.zero_le _⟩) hI (st1 := [.ref (adr o_4)]) rfl (fun H locs hI => ?_)
    refine lv_astore_n (i := 2) (lv' := [(2, .ref (adr o_4)), (0, .ref (adr 0)), (1, .int p0)]) hx hb d_Bo_seal_8 rfl hl (by decide) rfl (fun ls hl => ?_)
    refine lv_aload_n hx hb d_Bo_seal_9 rfl (lv_at hl 0 rfl) ?_
    refine lv_ifnull hx hb d_Bo_seal_10 ?_
    refine lv_aload_n hx hb d_Bo_seal_13 rfl (lv_at hl 0 rfl) ?_
    refine gx_getI G hI cl_Jb (gx_ci_j hg_5) 10 (by decide) (gx_rf_j hg_5 10) fl_Bo_97 d_Bo_seal_14 ?_
    refine lv_bipush (v := 6) hx hb d_Bo_seal_17 (by decide) ?_
    refine lv_icmp_ne (tgt := 29) hx hb d_Bo_seal_19 (by decide) (fun c_6 => ?_) (fun c_6 => ?_)
    · replace hf := (if_neg c_6).symm.trans hf
      refine lv_iconst (v := (-1)) hx hb d_Bo_seal_29 (by decide) ?_
      cases hf
      exact W.iret hx hb hr (gx_F hI) hI.2.2.2 d_Bo_seal_30
    · replace hf := (if_pos c_6).symm.trans hf
      refine lv_aload_n hx hb d_Bo_seal_22 rfl (lv_at hl 0 rfl) ?_
      refine gx_getI G hI cl_Jb (gx_ci_j hg_5) 9 (by decide) (gx_rf_j hg_5 9) fl_Bo_103 d_Bo_seal_23 ?_
      refine lv_if_eq (tgt := 31) hx hb d_Bo_seal_26 (by decide) (fun c_7 => ?_) (fun c_7 => ?_)
      · replace hf := (if_pos c_7).symm.trans hf
        refine lv_aload_n hx hb d_Bo_seal_31 rfl (lv_at hl 0 rfl) ?_
        refine lv_iconst (v := 1) hx hb d_Bo_seal_32 (by decide) ?_
        obtain ⟨σ_8, eσ_8, hf⟩ := gx_lte hf
        refine gx_put G hI hA cl_Jb (gx_ci_j hg_5) 9 (by decide) (gx_rf_j hg_5 9) fl_Bo_103 rfl (by decide) (by decide) eσ_8 d_Bo_seal_33 (fun H locs hI => ?_)
        refine lv_aload_n hx hb d_Bo_seal_36 rfl (lv_at hl 1 rfl) ?_
        refine gx_getR (o' := 24) G hI cl_Bo (by decide) 2 (by decide) (by decide) fl_Bo_23 d_Bo_seal_37 ?_
        refine lv_aload_n hx hb d_Bo_seal_40 rfl (lv_at hl 0 rfl) ?_
        obtain ⟨σ_9, hc_10, hf⟩ := gx_bve hf
        refine gx_go (va_runV (As := [.ref (adr o_4)]) (rest := []) G.1 (ct_Ro_releaseIfComplete l D dA adr A hA N 24 o_4 σ_8 σ_9 hc_10) (cwV 1 ht gi_Bo_106 rfl rfl rfl (by decide +kernel) ⟨Nat.le_of_ble_eq_true rfl, Nat.le_of_ble_eq_true rfl⟩) (gx_preV G hI cl_Ro (gx_ci_r (by decide))) rfl rfl hl.1 rfl (lv_room (Nat.le_of_ble_eq_true rfl)) d_Bo_seal_41 ⟨Nat.zero_le _, Nat.zero_le _⟩) hI (st1 := []) rfl (fun H locs hI => ?_)
        refine lv_aload_n hx hb d_Bo_seal_44 rfl (lv_at hl 1 rfl) ?_
        refine gx_getR (o' := 6) G hI cl_Bo (by decide) 3 (by decide) (by decide) fl_Bo_30 d_Bo_seal_45 ?_
        refine lv_aload_n hx hb d_Bo_seal_48 rfl (lv_at hl 1 rfl) ?_
        refine gx_getR (o' := 24) G hI cl_Bo (by decide) 2 (by decide) (by decide) fl_Bo_23 d_Bo_seal_49 ?_
        obtain ⟨σ_11, hc_12, hf⟩ := gx_bve hf
        refine gx_go (va_runV (As := [.ref (adr 24)]) (rest := []) G.1 (ct_Jn_write l D dA adr A hA N 24 σ_9 σ_11 hc_12) (cwV 1 ht gi_Bo_79 rfl rfl rfl (by decide +kernel) ⟨Nat.le_of_ble_eq_true rfl, Nat.le_of_ble_eq_true rfl⟩) (gx_preV G hI cl_Jn (by decide)) rfl rfl hl.1 rfl (lv_room (Nat.le_of_ble_eq_true rfl)) d_Bo_seal_52 ⟨Nat.zero_le _, Nat.zero_le _⟩) hI (st1 := []) rfl (fun H locs hI => ?_)
        refine lv_iconst (v := 0) hx hb d_Bo_seal_55 (by decide) ?_
        cases hf
        exact W.iret hx hb hr (gx_F hI) hI.2.2.2 d_Bo_seal_56
      · replace hf := (if_neg c_7).symm.trans hf
        refine lv_iconst (v := (-1)) hx hb d_Bo_seal_29 (by decide) ?_
        cases hf
        exact W.iret hx hb hr (gx_F hI) hI.2.2.2 d_Bo_seal_30
def fn_Bo_take (N : Nat) (p0 : Int32) (p1 : Int32) (σ : gx_M) : Option (Int32 × gx_M) := gx_bd (fn_Bo_isWorker N p0 σ) (fun r_3 σ_1 => if r_3 = 0 then (some ((-1 : Int32), σ_1)) else (gx_bd (fn_Bo_within N p1 ((1 : Int32)) ((100 : Int32)) σ_1) (fun r_7 σ_5 => if r_7 = 0 then (some ((-1 : Int32), σ_5)) else (gx_bd (fn_Ro_reservedBy N 24 p0 σ_5) (fun x_11 σ_9 => gx_mt x_11 (if (σ_9 0 0) = 0 then (gx_bd (fn_Bo_openQueueByCredit N σ_9) (fun r_17 σ_15 => if r_17 = ((-4 : Int32)) then (some ((-4 : Int32), σ_15)) else (gx_bd (fn_Ro_nextInLine N 24 r_17 none σ_15) (fun x_21 σ_19 => gx_mt x_21 (some ((-4 : Int32), σ_19)) (fun o_22 => if 42 ≤ o_22 ∧ o_22 < 722 then (if 0 ≤ r_17 ∧ r_17 < 4 then (gx_bv (fn_Qu_spendToken N (gx_el 1 r_17.toNatClampNeg) σ_19) (fun σ_25 => gx_lt (gx_up σ_25 o_22 12 p0) (fun σ_27 => gx_bv (fn_Jb_waitUntil N o_22 ((2 : Int32)) ((σ_27 0 4) + p1) σ_27) (fun σ_28 => gx_bv (fn_Jn_write N 24 σ_28) (fun σ_30 => some (σ_30 o_22 0, σ_30)))))) else none) else none))))) else (gx_bd (fn_Bo_firstOpenQueue N σ_9) (fun r_34 σ_32 => if r_34 = ((-4 : Int32)) then (some ((-4 : Int32), σ_32)) else (gx_bd (fn_Ro_nextInLine N 24 r_34 none σ_32) (fun x_38 σ_36 => gx_mt x_38 (some ((-4 : Int32), σ_36)) (fun o_39 => if 42 ≤ o_39 ∧ o_39 < 722 then (if 0 ≤ r_34 ∧ r_34 < 4 then (gx_bv (fn_Qu_spendToken N (gx_el 1 r_34.toNatClampNeg) σ_36) (fun σ_42 => gx_lt (gx_up σ_42 o_39 12 p0) (fun σ_44 => gx_bv (fn_Jb_waitUntil N o_39 ((2 : Int32)) ((σ_44 0 4) + p1) σ_44) (fun σ_45 => gx_bv (fn_Jn_write N 24 σ_45) (fun σ_47 => some (σ_47 o_39 0, σ_47)))))) else none) else none)))))) (fun o_12 => if 42 ≤ o_12 ∧ o_12 < 722 then (some ((-1 : Int32), σ_9)) else none))))))
set_option maxHeartbeats 4000000 in
set_option maxRecDepth 100000 in
theorem ct_Bo_take (l : Launch) (D : va_G) (dA : Nat → ClassId) (adr : Nat → Nat) (A : Nat → Prop) (hA : gx_A A adr) (N : Nat) (p0 : Int32) (p1 : Int32) (σ : gx_M) (r : Int32) (σ' : gx_M) (hf : fn_Bo_take N p0 p1 σ = some (r, σ')) : Met l y_Bo_take w_Bo_take rm_Bo_take (gx_Pc D dA adr σ [.ref (adr 0), .int p0, .int p1]) (gx_Q D dA adr A (some (.int r)) σ') 0 0 A := by
  refine Met.ofW (cc := b_Bo_take) (maxL := 5) (ret := some .int) (by decide) rfl ?_
  intro p e s m args below meth c s₁ B hml hv
  obtain ⟨rfl, hP, hK⟩ := hv
  have hx := B.exec
  have hb := B.bytes
  have hr := B.returns
  have hlocks := B.notSynchronized
  have ht : ∀ w ∈ gx_tb, w.before _ s = true := fun w h => atoms_spec (ws := w_Bo_take) B.pre w (List.mem_cons_of_mem _ h)
  have hown : s.vm.findClass R_Bo = some m.cls := findClass_of_methodNamed B.named
  have G : gx_G p m c b_Bo_take 5 s _ gx_tb R_Bo D dA := ⟨⟨hx, hb, hml, hown, ht⟩, hK⟩
  have hI : gx_I D dA adr A s.heap σ s.heap [] := ⟨hP, va_S.rf⟩
  have hl := lv_entry ([.ref (adr 0), .int p0, .int p1]) (n := 5) (Nat.le_of_ble_eq_true rfl)
  rw [lg_entry_eq]
  generalize (lg_sl ([.ref (adr 0), .int p0, .int p1]) ++ List.replicate (5 - (lg_sl ([.ref (adr 0), .int p0, .int p1])).length) Slot.unset).toArray = ls at hl ⊢
  have hl : lv_has ls 5 [(0, .ref (adr 0)), (1, .int p0), (2, .int p1)] := hl
  rw [fn_Bo_take] at hf
  refine lv_iload_n hx hb d_Bo_take_0 rfl (lv_at hl 1 rfl) ?_
  obtain ⟨r_3, σ_1, hc_2, hf⟩ := gx_bde hf
  refine gx_go (va_runS (As := [.int p0]) (rest := []) G.1 (ct_Bo_isWorker l D dA adr A hA N p0 σ r_3 σ_1 hc_2) (cwS 1 ht gi_Bo_110 rfl rfl rfl (by decide +kernel) ⟨Nat.le_of_ble_eq_true rfl, Nat.le_of_ble_eq_true rfl⟩) (gx_pre G hI) rfl rfl hl.1 rfl (lv_room (Nat.le_of_ble_eq_true rfl)) d_Bo_take_1 ⟨Nat.zero_le _, Nat.zero_le _⟩) hI (st1 := [.int r_3]) rfl (fun H locs hI => ?_)
  refine lv_if_eq (tgt := 28) hx hb d_Bo_take_4 (by decide) (fun c_4 => ?_) (fun c_4 => ?_)
  · replace hf := (if_pos c_4).symm.trans hf
    refine lv_iconst (v := (-1)) hx hb d_Bo_take_28 (by decide) ?_
    cases hf
    exact W.iret hx hb hr (gx_F hI) hI.2.2.2 d_Bo_take_29
  · replace hf := (if_neg c_4).symm.trans hf
    refine lv_iload_n hx hb d_Bo_take_7 rfl (lv_at hl 2 rfl) ?_
    refine lv_iconst (v := 1) hx hb d_Bo_take_8 (by decide) ?_
    refine lv_bipush (v := 100) hx hb d_Bo_take_9 (by decide) ?_
    obtain ⟨r_7, σ_5, hc_6, hf⟩ := gx_bde hf
    refine gx_go (va_runS (As := [.int p1, .int ((1 : Int32)), .int ((100 : Int32))]) (rest := []) G.1 (ct_Bo_within l D dA adr A hA N p1 ((1 : Int32)) ((100 : Int32)) σ_1 r_7 σ_5 hc_6) (cwS 3 ht gi_Bo_45 rfl rfl rfl (by decide +kernel) ⟨Nat.le_of_ble_eq_true rfl, Nat.le_of_ble_eq_true rfl⟩) (gx_pre G hI) rfl rfl hl.1 rfl (lv_room (Nat.le_of_ble_eq_true rfl)) d_Bo_take_11 ⟨Nat.zero_le _, Nat.zero_le _⟩) hI (st1 := [.int r_7]) rfl (fun H locs hI => ?_)
    refine lv_if_eq (tgt := 28) hx hb d_Bo_take_14 (by decide) (fun c_8 => ?_) (fun c_8 => ?_)
    · replace hf := (if_pos c_8).symm.trans hf
      refine lv_iconst (v := (-1)) hx hb d_Bo_take_28 (by decide) ?_
      cases hf
      exact W.iret hx hb hr (gx_F hI) hI.2.2.2 d_Bo_take_29
    · replace hf := (if_neg c_8).symm.trans hf
      refine lv_aload_n hx hb d_Bo_take_17 rfl (lv_at hl 0 rfl) ?_
      refine gx_getR (o' := 24) G hI cl_Bo (by decide) 2 (by decide) (by decide) fl_Bo_23 d_Bo_take_18 ?_
      refine lv_iload_n hx hb d_Bo_take_21 rfl (lv_at hl 1 rfl) ?_
      obtain ⟨x_11, σ_9, hc_10, hf⟩ := gx_bde hf
      rcases x_11 with _ | o_12
      · replace hf := gx_mtn hf
        refine gx_go (va_runV (As := [.int p0]) (rest := []) G.1 (ct_Ro_reservedBy l D dA adr A hA N 24 p0 σ_5 none σ_9 hc_10) (cwV 1 ht gi_Bo_113 rfl rfl rfl (by decide +kernel) ⟨Nat.le_of_ble_eq_true rfl, Nat.le_of_ble_eq_true rfl⟩) (gx_preV G hI cl_Ro (gx_ci_r (by decide))) rfl rfl hl.1 rfl (lv_room (Nat.le_of_ble_eq_true rfl)) d_Bo_take_22 ⟨Nat.zero_le _, Nat.zero_le _⟩) hI (st1 := [.null]) rfl (fun H locs hI => ?_)
        refine lv_ifnullN (tgt := 30) hx hb d_Bo_take_25 (by decide) ?_
        refine lv_aload_n hx hb d_Bo_take_30 rfl (lv_at hl 0 rfl) ?_
        refine gx_getI G hI cl_Bo (by decide) 0 (by decide) (by decide) fl_Bo_9 d_Bo_take_31 ?_
        refine lv_if_eq (tgt := 44) hx hb d_Bo_take_34 (by decide) (fun c_14 => ?_) (fun c_14 => ?_)
        · replace hf := (if_pos c_14).symm.trans hf
          refine lv_aload_n hx hb d_Bo_take_44 rfl (lv_at hl 0 rfl) ?_
          obtain ⟨r_17, σ_15, hc_16, hf⟩ := gx_bde hf
          refine gx_go (va_runV (As := []) (rest := []) G.1 (ct_Bo_openQueueByCredit l D dA adr A hA N σ_9 r_17 σ_15 hc_16) (cwV 0 ht gi_Bo_120 rfl rfl rfl (by decide +kernel) ⟨Nat.le_of_ble_eq_true rfl, Nat.le_of_ble_eq_true rfl⟩) (gx_preV G hI cl_Bo (by decide)) rfl rfl hl.1 rfl (lv_room (Nat.le_of_ble_eq_true rfl)) d_Bo_take_45 ⟨Nat.zero_le _, Nat.zero_le _⟩) hI (st1 := [.int r_17]) rfl (fun H locs hI => ?_)
          refine lv_istore_n (i := 3) (lv' := [(3, .int r_17), (0, .ref (adr 0)), (1, .int p0), (2, .int p1)]) hx hb d_Bo_take_48 rfl hl (by decide) rfl (fun ls hl => ?_)
          refine lv_iload_n hx hb d_Bo_take_49 rfl (lv_at hl 0 rfl) ?_
          refine lv_bipush (v := (-4)) hx hb d_Bo_take_50 (by decide) ?_
          refine lv_icmp_ne (tgt := 59) hx hb d_Bo_take_52 (by decide) (fun c_18 => ?_) (fun c_18 => ?_)
          · replace hf := (if_neg c_18).symm.trans hf
            refine lv_aload_n hx hb d_Bo_take_59 rfl (lv_at hl 1 rfl) ?_
            refine gx_getR (o' := 24) G hI cl_Bo (by decide) 2 (by decide) (by decide) fl_Bo_23 d_Bo_take_60 ?_
            refine lv_iload_n hx hb d_Bo_take_63 rfl (lv_at hl 0 rfl) ?_
            refine lv_null hx hb d_Bo_take_64 ?_
            obtain ⟨x_21, σ_19, hc_20, hf⟩ := gx_bde hf
            rcases x_21 with _ | o_22
            · replace hf := gx_mtn hf
              refine gx_go (va_runV (As := [.int r_17, .null]) (rest := []) G.1 (ct_Ro_nextInLine l D dA adr A hA N 24 r_17 none σ_15 none σ_19 hc_20) (cwV 2 ht gi_Bo_123 rfl rfl rfl (by decide +kernel) ⟨Nat.le_of_ble_eq_true rfl, Nat.le_of_ble_eq_true rfl⟩) (gx_preV G hI cl_Ro (gx_ci_r (by decide))) rfl rfl hl.1 rfl (lv_room (Nat.le_of_ble_eq_true rfl)) d_Bo_take_65 ⟨Nat.zero_le _, Nat.zero_le _⟩) hI (st1 := [.null]) rfl (fun H locs hI => ?_)
              refine lv_astoreN (i := 4) (lv' := [(4, .null), (3, .int r_17), (0, .ref (adr 0)), (1, .int p0), (2, .int p1)]) hx hb d_Bo_take_68 hl (by decide) rfl (fun ls hl => ?_)
              refine lv_aloadN hx hb d_Bo_take_70 (lv_at hl 0 rfl) ?_
              refine lv_ifnonnullN hx hb d_Bo_take_72 ?_
              refine lv_bipush (v := (-4)) hx hb d_Bo_take_75 (by decide) ?_
              cases hf
              exact W.iret hx hb hr (gx_F hI) hI.2.2.2 d_Bo_take_77
            · replace hf := gx_mts hf
              obtain ⟨hg_23, hf⟩ := gx_gd hf
              refine gx_go (va_runV (As := [.int r_17, .null]) (rest := []) G.1 (ct_Ro_nextInLine l D dA adr A hA N 24 r_17 none σ_15 (some o_22) σ_19 hc_20) (cwV 2 ht gi_Bo_123 rfl rfl rfl (by decide +kernel) ⟨Nat.le_of_ble_eq_true rfl, Nat.le_of_ble_eq_true rfl⟩) (gx_preV G hI cl_Ro (gx_ci_r (by decide))) rfl rfl hl.1 rfl (lv_room (Nat.le_of_ble_eq_true rfl)) d_Bo_take_65 ⟨Nat.zero_le _, Nat.zero_le _⟩) hI (st1 := [.ref (adr o_22)]) rfl (fun H locs hI => ?_)
              refine lv_astore (i := 4) (lv' := [(4, .ref (adr o_22)), (3, .int r_17), (0, .ref (adr 0)), (1, .int p0), (2, .int p1)]) hx hb d_Bo_take_68 hl (by decide) rfl (fun ls hl => ?_)
              refine lv_aload hx hb d_Bo_take_70 (lv_at hl 0 rfl) ?_
              refine lv_ifnonnull (tgt := 78) hx hb d_Bo_take_72 (by decide) ?_
              refine lv_aload_n hx hb d_Bo_take_78 rfl (lv_at hl 2 rfl) ?_
              refine gx_getR (o' := 1) G hI cl_Bo (by decide) 1 (by decide) (by decide) fl_Bo_15 d_Bo_take_79 ?_
              refine lv_iload_n hx hb d_Bo_take_82 rfl (lv_at hl 1 rfl) ?_
              obtain ⟨hi_24, hf⟩ := gx_gd hf
              refine gx_aldQ G hI hi_24 d_Bo_take_83 ?_
              obtain ⟨σ_25, hc_26, hf⟩ := gx_bve hf
              refine gx_go (va_runV (As := []) (rest := []) G.1 (ct_Qu_spendToken l D dA adr A hA N (gx_el 1 r_17.toNatClampNeg) σ_19 σ_25 hc_26) (cwV 0 ht gi_Bo_127 rfl rfl rfl (by decide +kernel) ⟨Nat.le_of_ble_eq_true rfl, Nat.le_of_ble_eq_true rfl⟩) (gx_preV G hI cl_Qu (gx_ci_q (gx_el_q hi_24))) rfl rfl hl.1 rfl (lv_room (Nat.le_of_ble_eq_true rfl)) d_Bo_take_84 ⟨Nat.zero_le _, Nat.zero_le _⟩) hI (st1 := []) rfl (fun H locs hI => ?_)
              refine lv_aload hx hb d_Bo_take_87 (lv_at hl 0 rfl) ?_
              refine lv_iload_n hx hb d_Bo_take_89 rfl (lv_at hl 3 rfl) ?_
              obtain ⟨σ_27, eσ_27, hf⟩ := gx_lte hf
              refine gx_put G hI hA cl_Jb (gx_ci_j hg_23) 12 (by decide) (gx_rf_j hg_23 12) fl_Bo_130 rfl rfl rfl eσ_27 d_Bo_take_90 (fun H locs hI => ?_)
              refine lv_aload hx hb d_Bo_take_93 (lv_at hl 0 rfl) ?_
              refine lv_iconst (v := 2) hx hb d_Bo_take_95 (by decide) ?_
              refine lv_aload_n hx hb d_Bo_take_96 rfl (lv_at hl 2 rfl) ?_
              refine gx_getI G hI cl_Bo (by decide) 4 (by decide) (by decide) fl_Bo_34 d_Bo_take_97 ?_
              refine lv_iload_n hx hb d_Bo_take_100 rfl (lv_at hl 4 rfl) ?_
              refine lv_iadd hx hb d_Bo_take_101 ?_
              obtain ⟨σ_28, hc_29, hf⟩ := gx_bve hf
              refine gx_go (va_runV (As := [.int ((2 : Int32)), .int ((σ_27 0 4) + p1)]) (rest := []) G.1 (ct_Jb_waitUntil l D dA adr A hA N o_22 ((2 : Int32)) ((σ_27 0 4) + p1) σ_27 σ_28 hc_29) (cwV 2 ht gi_Bo_75 rfl rfl rfl (by decide +kernel) ⟨Nat.le_of_ble_eq_true rfl, Nat.le_of_ble_eq_true rfl⟩) (gx_preV G hI cl_Jb (gx_ci_j hg_23)) rfl rfl hl.1 rfl (lv_room (Nat.le_of_ble_eq_true rfl)) d_Bo_take_102 ⟨Nat.zero_le _, Nat.zero_le _⟩) hI (st1 := []) rfl (fun H locs hI => ?_)
              refine lv_aload_n hx hb d_Bo_take_105 rfl (lv_at hl 2 rfl) ?_
              refine gx_getR (o' := 6) G hI cl_Bo (by decide) 3 (by decide) (by decide) fl_Bo_30 d_Bo_take_106 ?_
              refine lv_aload_n hx hb d_Bo_take_109 rfl (lv_at hl 2 rfl) ?_
              refine gx_getR (o' := 24) G hI cl_Bo (by decide) 2 (by decide) (by decide) fl_Bo_23 d_Bo_take_110 ?_
              obtain ⟨σ_30, hc_31, hf⟩ := gx_bve hf
              refine gx_go (va_runV (As := [.ref (adr 24)]) (rest := []) G.1 (ct_Jn_write l D dA adr A hA N 24 σ_28 σ_30 hc_31) (cwV 1 ht gi_Bo_79 rfl rfl rfl (by decide +kernel) ⟨Nat.le_of_ble_eq_true rfl, Nat.le_of_ble_eq_true rfl⟩) (gx_preV G hI cl_Jn (by decide)) rfl rfl hl.1 rfl (lv_room (Nat.le_of_ble_eq_true rfl)) d_Bo_take_113 ⟨Nat.zero_le _, Nat.zero_le _⟩) hI (st1 := []) rfl (fun H locs hI => ?_)
              refine lv_aload hx hb d_Bo_take_116 (lv_at hl 0 rfl) ?_
              refine gx_getI G hI cl_Jb (gx_ci_j hg_23) 0 (by decide) (gx_rf_j hg_23 0) fl_Bo_83 d_Bo_take_118 ?_
              cases hf
              exact W.iret hx hb hr (gx_F hI) hI.2.2.2 d_Bo_take_121
          · replace hf := (if_pos c_18).symm.trans hf
            refine lv_null hx hb d_Bo_take_55 ?_
            refine lv_goto (tgt := 68) hx hb d_Bo_take_56 (by decide) ?_
            refine lv_astoreN (i := 4) (lv' := [(4, .null), (3, .int r_17), (0, .ref (adr 0)), (1, .int p0), (2, .int p1)]) hx hb d_Bo_take_68 hl (by decide) rfl (fun ls hl => ?_)
            refine lv_aloadN hx hb d_Bo_take_70 (lv_at hl 0 rfl) ?_
            refine lv_ifnonnullN hx hb d_Bo_take_72 ?_
            refine lv_bipush (v := (-4)) hx hb d_Bo_take_75 (by decide) ?_
            cases hf
            exact W.iret hx hb hr (gx_F hI) hI.2.2.2 d_Bo_take_77
        · replace hf := (if_neg c_14).symm.trans hf
          refine lv_aload_n hx hb d_Bo_take_37 rfl (lv_at hl 0 rfl) ?_
          obtain ⟨r_34, σ_32, hc_33, hf⟩ := gx_bde hf
          refine gx_go (va_runV (As := []) (rest := []) G.1 (ct_Bo_firstOpenQueue l D dA adr A hA N σ_9 r_34 σ_32 hc_33) (cwV 0 ht gi_Bo_116 rfl rfl rfl (by decide +kernel) ⟨Nat.le_of_ble_eq_true rfl, Nat.le_of_ble_eq_true rfl⟩) (gx_preV G hI cl_Bo (by decide)) rfl rfl hl.1 rfl (lv_room (Nat.le_of_ble_eq_true rfl)) d_Bo_take_38 ⟨Nat.zero_le _, Nat.zero_le _⟩) hI (st1 := [.int r_34]) rfl (fun H locs hI => ?_)
          refine lv_goto (tgt := 48) hx hb d_Bo_take_41 (by decide) ?_
          refine lv_istore_n (i := 3) (lv' := [(3, .int r_34), (0, .ref (adr 0)), (1, .int p0), (2, .int p1)]) hx hb d_Bo_take_48 rfl hl (by decide) rfl (fun ls hl => ?_)
          refine lv_iload_n hx hb d_Bo_take_49 rfl (lv_at hl 0 rfl) ?_
          refine lv_bipush (v := (-4)) hx hb d_Bo_take_50 (by decide) ?_
          refine lv_icmp_ne (tgt := 59) hx hb d_Bo_take_52 (by decide) (fun c_35 => ?_) (fun c_35 => ?_)
          · replace hf := (if_neg c_35).symm.trans hf
            refine lv_aload_n hx hb d_Bo_take_59 rfl (lv_at hl 1 rfl) ?_
            refine gx_getR (o' := 24) G hI cl_Bo (by decide) 2 (by decide) (by decide) fl_Bo_23 d_Bo_take_60 ?_
            refine lv_iload_n hx hb d_Bo_take_63 rfl (lv_at hl 0 rfl) ?_
            refine lv_null hx hb d_Bo_take_64 ?_
            obtain ⟨x_38, σ_36, hc_37, hf⟩ := gx_bde hf
            rcases x_38 with _ | o_39
            · replace hf := gx_mtn hf
              refine gx_go (va_runV (As := [.int r_34, .null]) (rest := []) G.1 (ct_Ro_nextInLine l D dA adr A hA N 24 r_34 none σ_32 none σ_36 hc_37) (cwV 2 ht gi_Bo_123 rfl rfl rfl (by decide +kernel) ⟨Nat.le_of_ble_eq_true rfl, Nat.le_of_ble_eq_true rfl⟩) (gx_preV G hI cl_Ro (gx_ci_r (by decide))) rfl rfl hl.1 rfl (lv_room (Nat.le_of_ble_eq_true rfl)) d_Bo_take_65 ⟨Nat.zero_le _, Nat.zero_le _⟩) hI (st1 := [.null]) rfl (fun H locs hI => ?_)
              refine lv_astoreN (i := 4) (lv' := [(4, .null), (3, .int r_34), (0, .ref (adr 0)), (1, .int p0), (2, .int p1)]) hx hb d_Bo_take_68 hl (by decide) rfl (fun ls hl => ?_)
              refine lv_aloadN hx hb d_Bo_take_70 (lv_at hl 0 rfl) ?_
              refine lv_ifnonnullN hx hb d_Bo_take_72 ?_
              refine lv_bipush (v := (-4)) hx hb d_Bo_take_75 (by decide) ?_
              cases hf
              exact W.iret hx hb hr (gx_F hI) hI.2.2.2 d_Bo_take_77
            · replace hf := gx_mts hf
              obtain ⟨hg_40, hf⟩ := gx_gd hf
              refine gx_go (va_runV (As := [.int r_34, .null]) (rest := []) G.1 (ct_Ro_nextInLine l D dA adr A hA N 24 r_34 none σ_32 (some o_39) σ_36 hc_37) (cwV 2 ht gi_Bo_123 rfl rfl rfl (by decide +kernel) ⟨Nat.le_of_ble_eq_true rfl, Nat.le_of_ble_eq_true rfl⟩) (gx_preV G hI cl_Ro (gx_ci_r (by decide))) rfl rfl hl.1 rfl (lv_room (Nat.le_of_ble_eq_true rfl)) d_Bo_take_65 ⟨Nat.zero_le _, Nat.zero_le _⟩) hI (st1 := [.ref (adr o_39)]) rfl (fun H locs hI => ?_)
              refine lv_astore (i := 4) (lv' := [(4, .ref (adr o_39)), (3, .int r_34), (0, .ref (adr 0)), (1, .int p0), (2, .int p1)]) hx hb d_Bo_take_68 hl (by decide) rfl (fun ls hl => ?_)
              refine lv_aload hx hb d_Bo_take_70 (lv_at hl 0 rfl) ?_
              refine lv_ifnonnull (tgt := 78) hx hb d_Bo_take_72 (by decide) ?_
              refine lv_aload_n hx hb d_Bo_take_78 rfl (lv_at hl 2 rfl) ?_
              refine gx_getR (o' := 1) G hI cl_Bo (by decide) 1 (by decide) (by decide) fl_Bo_15 d_Bo_take_79 ?_
              refine lv_iload_n hx hb d_Bo_take_82 rfl (lv_at hl 1 rfl) ?_
              obtain ⟨hi_41, hf⟩ := gx_gd hf
              refine gx_aldQ G hI hi_41 d_Bo_take_83 ?_
              obtain ⟨σ_42, hc_43, hf⟩ := gx_bve hf
              refine gx_go (va_runV (As := []) (rest := []) G.1 (ct_Qu_spendToken l D dA adr A hA N (gx_el 1 r_34.toNatClampNeg) σ_36 σ_42 hc_43) (cwV 0 ht gi_Bo_127 rfl rfl rfl (by decide +kernel) ⟨Nat.le_of_ble_eq_true rfl, Nat.le_of_ble_eq_true rfl⟩) (gx_preV G hI cl_Qu (gx_ci_q (gx_el_q hi_41))) rfl rfl hl.1 rfl (lv_room (Nat.le_of_ble_eq_true rfl)) d_Bo_take_84 ⟨Nat.zero_le _, Nat.zero_le _⟩) hI (st1 := []) rfl (fun H locs hI => ?_)
              refine lv_aload hx hb d_Bo_take_87 (lv_at hl 0 rfl) ?_
              refine lv_iload_n hx hb d_Bo_take_89 rfl (lv_at hl 3 rfl) ?_
              obtain ⟨σ_44, eσ_44, hf⟩ := gx_lte hf
              refine gx_put G hI hA cl_Jb (gx_ci_j hg_40) 12 (by decide) (gx_rf_j hg_40 12) fl_Bo_130 rfl rfl rfl eσ_44 d_Bo_take_90 (fun H locs hI => ?_)
              refine lv_aload hx hb d_Bo_take_93 (lv_at hl 0 rfl) ?_
              refine lv_iconst (v := 2) hx hb d_Bo_take_95 (by decide) ?_
              refine lv_aload_n hx hb d_Bo_take_96 rfl (lv_at hl 2 rfl) ?_
              refine gx_getI G hI cl_Bo (by decide) 4 (by decide) (by decide) fl_Bo_34 d_Bo_take_97 ?_
              refine lv_iload_n hx hb d_Bo_take_100 rfl (lv_at hl 4 rfl) ?_
              refine lv_iadd hx hb d_Bo_take_101 ?_
              obtain ⟨σ_45, hc_46, hf⟩ := gx_bve hf
              refine gx_go (va_runV (As := [.int ((2 : Int32)), .int ((σ_44 0 4) + p1)]) (rest := []) G.1 (ct_Jb_waitUntil l D dA adr A hA N o_39 ((2 : Int32)) ((σ_44 0 4) + p1) σ_44 σ_45 hc_46) (cwV 2 ht gi_Bo_75 rfl rfl rfl (by decide +kernel) ⟨Nat.le_of_ble_eq_true rfl, Nat.le_of_ble_eq_true rfl⟩) (gx_preV G hI cl_Jb (gx_ci_j hg_40)) rfl rfl hl.1 rfl (lv_room (Nat.le_of_ble_eq_true rfl)) d_Bo_take_102 ⟨Nat.zero_le _, Nat.zero_le _⟩) hI (st1 := []) rfl (fun H locs hI => ?_)
              refine lv_aload_n hx hb d_Bo_take_105 rfl (lv_at hl 2 rfl) ?_
              refine gx_getR (o' := 6) G hI cl_Bo (by decide) 3 (by decide) (by decide) fl_Bo_30 d_Bo_take_106 ?_
              refine lv_aload_n hx hb d_Bo_take_109 rfl (lv_at hl 2 rfl) ?_
              refine gx_getR (o' := 24) G hI cl_Bo (by decide) 2 (by decide) (by decide) fl_Bo_23 d_Bo_take_110 ?_
              obtain ⟨σ_47, hc_48, hf⟩ := gx_bve hf
              refine gx_go (va_runV (As := [.ref (adr 24)]) (rest := []) G.1 (ct_Jn_write l D dA adr A hA N 24 σ_45 σ_47 hc_48) (cwV 1 ht gi_Bo_79 rfl rfl rfl (by decide +kernel) ⟨Nat.le_of_ble_eq_true rfl, Nat.le_of_ble_eq_true rfl⟩) (gx_preV G hI cl_Jn (by decide)) rfl rfl hl.1 rfl (lv_room (Nat.le_of_ble_eq_true rfl)) d_Bo_take_113 ⟨Nat.zero_le _, Nat.zero_le _⟩) hI (st1 := []) rfl (fun H locs hI => ?_)
              refine lv_aload hx hb d_Bo_take_116 (lv_at hl 0 rfl) ?_
              refine gx_getI G hI cl_Jb (gx_ci_j hg_40) 0 (by decide) (gx_rf_j hg_40 0) fl_Bo_83 d_Bo_take_118 ?_
              cases hf
              exact W.iret hx hb hr (gx_F hI) hI.2.2.2 d_Bo_take_121
          · replace hf := (if_pos c_35).symm.trans hf
            refine lv_null hx hb d_Bo_take_55 ?_
            refine lv_goto (tgt := 68) hx hb d_Bo_take_56 (by decide) ?_
            refine lv_astoreN (i := 4) (lv' := [(4, .null), (3, .int r_34), (0, .ref (adr 0)), (1, .int p0), (2, .int p1)]) hx hb d_Bo_take_68 hl (by decide) rfl (fun ls hl => ?_)
            refine lv_aloadN hx hb d_Bo_take_70 (lv_at hl 0 rfl) ?_
            refine lv_ifnonnullN hx hb d_Bo_take_72 ?_
            refine lv_bipush (v := (-4)) hx hb d_Bo_take_75 (by decide) ?_
            cases hf
            exact W.iret hx hb hr (gx_F hI) hI.2.2.2 d_Bo_take_77
      · replace hf := gx_mts hf
        obtain ⟨hg_13, hf⟩ := gx_gd hf
        refine gx_go (va_runV (As := [.int p0]) (rest := []) G.1 (ct_Ro_reservedBy l D dA adr A hA N 24 p0 σ_5 (some o_12) σ_9 hc_10) (cwV 1 ht gi_Bo_113 rfl rfl rfl (by decide +kernel) ⟨Nat.le_of_ble_eq_true rfl, Nat.le_of_ble_eq_true rfl⟩) (gx_preV G hI cl_Ro (gx_ci_r (by decide))) rfl rfl hl.1 rfl (lv_room (Nat.le_of_ble_eq_true rfl)) d_Bo_take_22 ⟨Nat.zero_le _, Nat.zero_le _⟩) hI (st1 := [.ref (adr o_12)]) rfl (fun H locs hI => ?_)
        refine lv_ifnull hx hb d_Bo_take_25 ?_
        refine lv_iconst (v := (-1)) hx hb d_Bo_take_28 (by decide) ?_
        cases hf
        exact W.iret hx hb hr (gx_F hI) hI.2.2.2 d_Bo_take_29
def fn_Bo_ack (N : Nat) (p0 : Int32) (σ : gx_M) : Option (Int32 × gx_M) := gx_bd (fn_Ro_reservedBy N 24 p0 σ) (fun x_3 σ_1 => gx_mt x_3 (some ((-1 : Int32), σ_1)) (fun o_4 => if 42 ≤ o_4 ∧ o_4 < 722 then (gx_lt (gx_up σ_1 o_4 10 ((4 : Int32))) (fun σ_6 => gx_bd (fn_Ro_find N 24 (σ_6 o_4 7) σ_6) (fun x_9 σ_7 => gx_mt x_9 (gx_bv (fn_Jn_write N 24 σ_7) (fun σ_12 => some (σ_12 o_4 0, σ_12))) (fun o_10 => if 42 ≤ o_10 ∧ o_10 < 722 then (gx_lt (gx_up σ_7 o_10 8 ((σ_7 o_10 8) - ((1 : Int32)))) (fun σ_14 => gx_bv (fn_Ro_releaseIfComplete N 24 o_10 σ_14) (fun σ_15 => gx_bv (fn_Jn_write N 24 σ_15) (fun σ_17 => some (σ_17 o_4 0, σ_17))))) else none)))) else none))
set_option maxHeartbeats 4000000 in
set_option maxRecDepth 100000 in
theorem ct_Bo_ack (l : Launch) (D : va_G) (dA : Nat → ClassId) (adr : Nat → Nat) (A : Nat → Prop) (hA : gx_A A adr) (N : Nat) (p0 : Int32) (σ : gx_M) (r : Int32) (σ' : gx_M) (hf : fn_Bo_ack N p0 σ = some (r, σ')) : Met l y_Bo_ack w_Bo_ack rm_Bo_ack (gx_Pc D dA adr σ [.ref (adr 0), .int p0]) (gx_Q D dA adr A (some (.int r)) σ') 0 0 A := by
  refine Met.ofW (cc := b_Bo_ack) (maxL := 4) (ret := some .int) (by decide) rfl ?_
  intro p e s m args below meth c s₁ B hml hv
  obtain ⟨rfl, hP, hK⟩ := hv
  have hx := B.exec
  have hb := B.bytes
  have hr := B.returns
  have hlocks := B.notSynchronized
  have ht : ∀ w ∈ gx_tb, w.before _ s = true := fun w h => atoms_spec (ws := w_Bo_ack) B.pre w (List.mem_cons_of_mem _ h)
  have hown : s.vm.findClass R_Bo = some m.cls := findClass_of_methodNamed B.named
  have G : gx_G p m c b_Bo_ack 4 s _ gx_tb R_Bo D dA := ⟨⟨hx, hb, hml, hown, ht⟩, hK⟩
  have hI : gx_I D dA adr A s.heap σ s.heap [] := ⟨hP, va_S.rf⟩
  have hl := lv_entry ([.ref (adr 0), .int p0]) (n := 4) (Nat.le_of_ble_eq_true rfl)
  rw [lg_entry_eq]
  generalize (lg_sl ([.ref (adr 0), .int p0]) ++ List.replicate (4 - (lg_sl ([.ref (adr 0), .int p0])).length) Slot.unset).toArray = ls at hl ⊢
  have hl : lv_has ls 4 [(0, .ref (adr 0)), (1, .int p0)] := hl
  rw [fn_Bo_ack] at hf
  refine lv_aload_n hx hb d_Bo_ack_0 rfl (lv_at hl 0 rfl) ?_
  refine gx_getR (o' := 24) G hI cl_Bo (by decide) 2 (by decide) (by decide) fl_Bo_23 d_Bo_ack_1 ?_
  refine lv_iload_n hx hb d_Bo_ack_4 rfl (lv_at hl 1 rfl) ?_
  obtain ⟨x_3, σ_1, hc_2, hf⟩ := gx_bde hf
  rcases x_3 with _ | o_4
  · replace hf := gx_mtn hf
    refine gx_go (va_runV (As := [.int p0]) (rest := []) G.1 (ct_Ro_reservedBy l D dA adr A hA N 24 p0 σ none σ_1 hc_2) (cwV 1 ht gi_Bo_113 rfl rfl rfl (by decide +kernel) ⟨Nat.le_of_ble_eq_true rfl, Nat.le_of_ble_eq_true rfl⟩) (gx_preV G hI cl_Ro (gx_ci_r (by decide))) rfl rfl hl.1 rfl (lv_room (Nat.le_of_ble_eq_true rfl)) d_Bo_ack_5 ⟨Nat.zero_le _, Nat.zero_le _⟩) hI (st1 := [.null]) rfl (fun H locs hI => ?_)
    refine lv_astore_nN (i := 2) (lv' := [(2, .null), (0, .ref (adr 0)), (1, .int p0)]) hx hb d_Bo_ack_8 rfl hl (by decide) rfl (fun ls hl => ?_)
    refine lv_aload_nN hx hb d_Bo_ack_9 rfl (lv_at hl 0 rfl) ?_
    refine lv_ifnonnullN hx hb d_Bo_ack_10 ?_
    refine lv_iconst (v := (-1)) hx hb d_Bo_ack_13 (by decide) ?_
    cases hf
    exact W.iret hx hb hr (gx_F hI) hI.2.2.2 d_Bo_ack_14
  · replace hf := gx_mts hf
    obtain ⟨hg_5, hf⟩ := gx_gd hf
    refine gx_go (va_runV (As := [.int p0]) (rest := []) G.1 (ct_Ro_reservedBy l D dA adr A hA N 24 p0 σ (some o_4) σ_1 hc_2) (cwV 1 ht gi_Bo_113 rfl rfl rfl (by decide +kernel) ⟨Nat.le_of_ble_eq_true rfl, Nat.le_of_ble_eq_true rfl⟩) (gx_preV G hI cl_Ro (gx_ci_r (by decide))) rfl rfl hl.1 rfl (lv_room (Nat.le_of_ble_eq_true rfl)) d_Bo_ack_5 ⟨Nat.zero_le _, Nat.zero_le _⟩) hI (st1 := [.ref (adr o_4)]) rfl (fun H locs hI => ?_)
    refine lv_astore_n (i := 2) (lv' := [(2, .ref (adr o_4)), (0, .ref (adr 0)), (1, .int p0)]) hx hb d_Bo_ack_8 rfl hl (by decide) rfl (fun ls hl => ?_)
    refine lv_aload_n hx hb d_Bo_ack_9 rfl (lv_at hl 0 rfl) ?_
    refine lv_ifnonnull (tgt := 15) hx hb d_Bo_ack_10 (by decide) ?_
    refine lv_aload_n hx hb d_Bo_ack_15 rfl (lv_at hl 0 rfl) ?_
    refine lv_iconst (v := 4) hx hb d_Bo_ack_16 (by decide) ?_
    obtain ⟨σ_6, eσ_6, hf⟩ := gx_lte hf
    refine gx_put G hI hA cl_Jb (gx_ci_j hg_5) 10 (by decide) (gx_rf_j hg_5 10) fl_Bo_97 rfl rfl rfl eσ_6 d_Bo_ack_17 (fun H locs hI => ?_)
    refine lv_aload_n hx hb d_Bo_ack_20 rfl (lv_at hl 1 rfl) ?_
    refine gx_getR (o' := 24) G hI cl_Bo (by decide) 2 (by decide) (by decide) fl_Bo_23 d_Bo_ack_21 ?_
    refine lv_aload_n hx hb d_Bo_ack_24 rfl (lv_at hl 0 rfl) ?_
    refine gx_getI G hI cl_Jb (gx_ci_j hg_5) 7 (by decide) (gx_rf_j hg_5 7) fl_Bo_94 d_Bo_ack_25 ?_
    obtain ⟨x_9, σ_7, hc_8, hf⟩ := gx_bde hf
    rcases x_9 with _ | o_10
    · replace hf := gx_mtn hf
      refine gx_go (va_runV (As := [.int (σ_6 o_4 7)]) (rest := []) G.1 (ct_Ro_find l D dA adr A hA N 24 (σ_6 o_4 7) σ_6 none σ_7 hc_8) (cwV 1 ht gi_Bo_86 rfl rfl rfl (by decide +kernel) ⟨Nat.le_of_ble_eq_true rfl, Nat.le_of_ble_eq_true rfl⟩) (gx_preV G hI cl_Ro (gx_ci_r (by decide))) rfl rfl hl.1 rfl (lv_room (Nat.le_of_ble_eq_true rfl)) d_Bo_ack_28 ⟨Nat.zero_le _, Nat.zero_le _⟩) hI (st1 := [.null]) rfl (fun H locs hI => ?_)
      refine lv_astore_nN (i := 3) (lv' := [(3, .null), (2, .ref (adr o_4)), (0, .ref (adr 0)), (1, .int p0)]) hx hb d_Bo_ack_31 rfl hl (by decide) rfl (fun ls hl => ?_)
      refine lv_aload_nN hx hb d_Bo_ack_32 rfl (lv_at hl 0 rfl) ?_
      refine lv_ifnullN (tgt := 54) hx hb d_Bo_ack_33 (by decide) ?_
      refine lv_aload_n hx hb d_Bo_ack_54 rfl (lv_at hl 2 rfl) ?_
      refine gx_getR (o' := 6) G hI cl_Bo (by decide) 3 (by decide) (by decide) fl_Bo_30 d_Bo_ack_55 ?_
      refine lv_aload_n hx hb d_Bo_ack_58 rfl (lv_at hl 2 rfl) ?_
      refine gx_getR (o' := 24) G hI cl_Bo (by decide) 2 (by decide) (by decide) fl_Bo_23 d_Bo_ack_59 ?_
      obtain ⟨σ_12, hc_13, hf⟩ := gx_bve hf
      refine gx_go (va_runV (As := [.ref (adr 24)]) (rest := []) G.1 (ct_Jn_write l D dA adr A hA N 24 σ_7 σ_12 hc_13) (cwV 1 ht gi_Bo_79 rfl rfl rfl (by decide +kernel) ⟨Nat.le_of_ble_eq_true rfl, Nat.le_of_ble_eq_true rfl⟩) (gx_preV G hI cl_Jn (by decide)) rfl rfl hl.1 rfl (lv_room (Nat.le_of_ble_eq_true rfl)) d_Bo_ack_62 ⟨Nat.zero_le _, Nat.zero_le _⟩) hI (st1 := []) rfl (fun H locs hI => ?_)
      refine lv_aload_n hx hb d_Bo_ack_65 rfl (lv_at hl 1 rfl) ?_
      refine gx_getI G hI cl_Jb (gx_ci_j hg_5) 0 (by decide) (gx_rf_j hg_5 0) fl_Bo_83 d_Bo_ack_66 ?_
      cases hf
      exact W.iret hx hb hr (gx_F hI) hI.2.2.2 d_Bo_ack_69
    · replace hf := gx_mts hf
      obtain ⟨hg_11, hf⟩ := gx_gd hf
      refine gx_go (va_runV (As := [.int (σ_6 o_4 7)]) (rest := []) G.1 (ct_Ro_find l D dA adr A hA N 24 (σ_6 o_4 7) σ_6 (some o_10) σ_7 hc_8) (cwV 1 ht gi_Bo_86 rfl rfl rfl (by decide +kernel) ⟨Nat.le_of_ble_eq_true rfl, Nat.le_of_ble_eq_true rfl⟩) (gx_preV G hI cl_Ro (gx_ci_r (by decide))) rfl rfl hl.1 rfl (lv_room (Nat.le_of_ble_eq_true rfl)) d_Bo_ack_28 ⟨Nat.zero_le _, Nat.zero_le _⟩) hI (st1 := [.ref (adr o_10)]) rfl (fun H locs hI => ?_)
      refine lv_astore_n (i := 3) (lv' := [(3, .ref (adr o_10)), (2, .ref (adr o_4)), (0, .ref (adr 0)), (1, .int p0)]) hx hb d_Bo_ack_31 rfl hl (by decide) rfl (fun ls hl => ?_)
      refine lv_aload_n hx hb d_Bo_ack_32 rfl (lv_at hl 0 rfl) ?_
      refine lv_ifnull hx hb d_Bo_ack_33 ?_
      refine lv_aload_n hx hb d_Bo_ack_36 rfl (lv_at hl 0 rfl) ?_
      refine lv_dup hx hb d_Bo_ack_37 rfl ?_
      refine gx_getI G hI cl_Jb (gx_ci_j hg_11) 8 (by decide) (gx_rf_j hg_11 8) fl_Bo_100 d_Bo_ack_38 ?_
      refine lv_iconst (v := 1) hx hb d_Bo_ack_41 (by decide) ?_
      refine lv_isub hx hb d_Bo_ack_42 ?_
      obtain ⟨σ_14, eσ_14, hf⟩ := gx_lte hf
      refine gx_put G hI hA cl_Jb (gx_ci_j hg_11) 8 (by decide) (gx_rf_j hg_11 8) fl_Bo_100 rfl rfl rfl eσ_14 d_Bo_ack_43 (fun H locs hI => ?_)
      refine lv_aload_n hx hb d_Bo_ack_46 rfl (lv_at hl 2 rfl) ?_
      refine gx_getR (o' := 24) G hI cl_Bo (by decide) 2 (by decide) (by decide) fl_Bo_23 d_Bo_ack_47 ?_
      refine lv_aload_n hx hb d_Bo_ack_50 rfl (lv_at hl 0 rfl) ?_
      obtain ⟨σ_15, hc_16, hf⟩ := gx_bve hf
      refine gx_go (va_runV (As := [.ref (adr o_10)]) (rest := []) G.1 (ct_Ro_releaseIfComplete l D dA adr A hA N 24 o_10 σ_14 σ_15 hc_16) (cwV 1 ht gi_Bo_106 rfl rfl rfl (by decide +kernel) ⟨Nat.le_of_ble_eq_true rfl, Nat.le_of_ble_eq_true rfl⟩) (gx_preV G hI cl_Ro (gx_ci_r (by decide))) rfl rfl hl.1 rfl (lv_room (Nat.le_of_ble_eq_true rfl)) d_Bo_ack_51 ⟨Nat.zero_le _, Nat.zero_le _⟩) hI (st1 := []) rfl (fun H locs hI => ?_)
      refine lv_aload_n hx hb d_Bo_ack_54 rfl (lv_at hl 2 rfl) ?_
      refine gx_getR (o' := 6) G hI cl_Bo (by decide) 3 (by decide) (by decide) fl_Bo_30 d_Bo_ack_55 ?_
      refine lv_aload_n hx hb d_Bo_ack_58 rfl (lv_at hl 2 rfl) ?_
      refine gx_getR (o' := 24) G hI cl_Bo (by decide) 2 (by decide) (by decide) fl_Bo_23 d_Bo_ack_59 ?_
      obtain ⟨σ_17, hc_18, hf⟩ := gx_bve hf
      refine gx_go (va_runV (As := [.ref (adr 24)]) (rest := []) G.1 (ct_Jn_write l D dA adr A hA N 24 σ_15 σ_17 hc_18) (cwV 1 ht gi_Bo_79 rfl rfl rfl (by decide +kernel) ⟨Nat.le_of_ble_eq_true rfl, Nat.le_of_ble_eq_true rfl⟩) (gx_preV G hI cl_Jn (by decide)) rfl rfl hl.1 rfl (lv_room (Nat.le_of_ble_eq_true rfl)) d_Bo_ack_62 ⟨Nat.zero_le _, Nat.zero_le _⟩) hI (st1 := []) rfl (fun H locs hI => ?_)
      refine lv_aload_n hx hb d_Bo_ack_65 rfl (lv_at hl 1 rfl) ?_
      refine gx_getI G hI cl_Jb (gx_ci_j hg_5) 0 (by decide) (gx_rf_j hg_5 0) fl_Bo_83 d_Bo_ack_66 ?_
      cases hf
      exact W.iret hx hb hr (gx_F hI) hI.2.2.2 d_Bo_ack_69
def fn_Bo_fail (N : Nat) (p0 : Int32) (σ : gx_M) : Option (Int32 × gx_M) := gx_bd (fn_Ro_reservedBy N 24 p0 σ) (fun x_3 σ_1 => gx_mt x_3 (some ((-1 : Int32), σ_1)) (fun o_4 => if 42 ≤ o_4 ∧ o_4 < 722 then (gx_bv (fn_Ro_failReserved N 24 o_4 (σ_1 0 4) σ_1) (fun σ_6 => gx_bv (fn_Jn_write N 24 σ_6) (fun σ_8 => some (σ_8 o_4 0, σ_8)))) else none))
set_option maxHeartbeats 4000000 in
set_option maxRecDepth 100000 in
theorem ct_Bo_fail (l : Launch) (D : va_G) (dA : Nat → ClassId) (adr : Nat → Nat) (A : Nat → Prop) (hA : gx_A A adr) (N : Nat) (p0 : Int32) (σ : gx_M) (r : Int32) (σ' : gx_M) (hf : fn_Bo_fail N p0 σ = some (r, σ')) : Met l y_Bo_fail w_Bo_fail rm_Bo_fail (gx_Pc D dA adr σ [.ref (adr 0), .int p0]) (gx_Q D dA adr A (some (.int r)) σ') 0 0 A := by
  refine Met.ofW (cc := b_Bo_fail) (maxL := 3) (ret := some .int) (by decide) rfl ?_
  intro p e s m args below meth c s₁ B hml hv
  obtain ⟨rfl, hP, hK⟩ := hv
  have hx := B.exec
  have hb := B.bytes
  have hr := B.returns
  have hlocks := B.notSynchronized
  have ht : ∀ w ∈ gx_tb, w.before _ s = true := fun w h => atoms_spec (ws := w_Bo_fail) B.pre w (List.mem_cons_of_mem _ h)
  have hown : s.vm.findClass R_Bo = some m.cls := findClass_of_methodNamed B.named
  have G : gx_G p m c b_Bo_fail 3 s _ gx_tb R_Bo D dA := ⟨⟨hx, hb, hml, hown, ht⟩, hK⟩
  have hI : gx_I D dA adr A s.heap σ s.heap [] := ⟨hP, va_S.rf⟩
  have hl := lv_entry ([.ref (adr 0), .int p0]) (n := 3) (Nat.le_of_ble_eq_true rfl)
  rw [lg_entry_eq]
  generalize (lg_sl ([.ref (adr 0), .int p0]) ++ List.replicate (3 - (lg_sl ([.ref (adr 0), .int p0])).length) Slot.unset).toArray = ls at hl ⊢
  have hl : lv_has ls 3 [(0, .ref (adr 0)), (1, .int p0)] := hl
  rw [fn_Bo_fail] at hf
  refine lv_aload_n hx hb d_Bo_fail_0 rfl (lv_at hl 0 rfl) ?_
  refine gx_getR (o' := 24) G hI cl_Bo (by decide) 2 (by decide) (by decide) fl_Bo_23 d_Bo_fail_1 ?_
  refine lv_iload_n hx hb d_Bo_fail_4 rfl (lv_at hl 1 rfl) ?_
  obtain ⟨x_3, σ_1, hc_2, hf⟩ := gx_bde hf
  rcases x_3 with _ | o_4
  · replace hf := gx_mtn hf
    refine gx_go (va_runV (As := [.int p0]) (rest := []) G.1 (ct_Ro_reservedBy l D dA adr A hA N 24 p0 σ none σ_1 hc_2) (cwV 1 ht gi_Bo_113 rfl rfl rfl (by decide +kernel) ⟨Nat.le_of_ble_eq_true rfl, Nat.le_of_ble_eq_true rfl⟩) (gx_preV G hI cl_Ro (gx_ci_r (by decide))) rfl rfl hl.1 rfl (lv_room (Nat.le_of_ble_eq_true rfl)) d_Bo_fail_5 ⟨Nat.zero_le _, Nat.zero_le _⟩) hI (st1 := [.null]) rfl (fun H locs hI => ?_)
    refine lv_astore_nN (i := 2) (lv' := [(2, .null), (0, .ref (adr 0)), (1, .int p0)]) hx hb d_Bo_fail_8 rfl hl (by decide) rfl (fun ls hl => ?_)
    refine lv_aload_nN hx hb d_Bo_fail_9 rfl (lv_at hl 0 rfl) ?_
    refine lv_ifnonnullN hx hb d_Bo_fail_10 ?_
    refine lv_iconst (v := (-1)) hx hb d_Bo_fail_13 (by decide) ?_
    cases hf
    exact W.iret hx hb hr (gx_F hI) hI.2.2.2 d_Bo_fail_14
  · replace hf := gx_mts hf
    obtain ⟨hg_5, hf⟩ := gx_gd hf
    refine gx_go (va_runV (As := [.int p0]) (rest := []) G.1 (ct_Ro_reservedBy l D dA adr A hA N 24 p0 σ (some o_4) σ_1 hc_2) (cwV 1 ht gi_Bo_113 rfl rfl rfl (by decide +kernel) ⟨Nat.le_of_ble_eq_true rfl, Nat.le_of_ble_eq_true rfl⟩) (gx_preV G hI cl_Ro (gx_ci_r (by decide))) rfl rfl hl.1 rfl (lv_room (Nat.le_of_ble_eq_true rfl)) d_Bo_fail_5 ⟨Nat.zero_le _, Nat.zero_le _⟩) hI (st1 := [.ref (adr o_4)]) rfl (fun H locs hI => ?_)
    refine lv_astore_n (i := 2) (lv' := [(2, .ref (adr o_4)), (0, .ref (adr 0)), (1, .int p0)]) hx hb d_Bo_fail_8 rfl hl (by decide) rfl (fun ls hl => ?_)
    refine lv_aload_n hx hb d_Bo_fail_9 rfl (lv_at hl 0 rfl) ?_
    refine lv_ifnonnull (tgt := 15) hx hb d_Bo_fail_10 (by decide) ?_
    refine lv_aload_n hx hb d_Bo_fail_15 rfl (lv_at hl 1 rfl) ?_
    refine gx_getR (o' := 24) G hI cl_Bo (by decide) 2 (by decide) (by decide) fl_Bo_23 d_Bo_fail_16 ?_
    refine lv_aload_n hx hb d_Bo_fail_19 rfl (lv_at hl 0 rfl) ?_
    refine lv_aload_n hx hb d_Bo_fail_20 rfl (lv_at hl 1 rfl) ?_
    refine gx_getI G hI cl_Bo (by decide) 4 (by decide) (by decide) fl_Bo_34 d_Bo_fail_21 ?_
    obtain ⟨σ_6, hc_7, hf⟩ := gx_bve hf
    refine gx_go (va_runV (As := [.ref (adr o_4), .int (σ_1 0 4)]) (rest := []) G.1 (ct_Ro_failReserved l D dA adr A hA N 24 o_4 (σ_1 0 4) σ_1 σ_6 hc_7) (cwV 2 ht gi_Bo_133 rfl rfl rfl (by decide +kernel) ⟨Nat.le_of_ble_eq_true rfl, Nat.le_of_ble_eq_true rfl⟩) (gx_preV G hI cl_Ro (gx_ci_r (by decide))) rfl rfl hl.1 rfl (lv_room (Nat.le_of_ble_eq_true rfl)) d_Bo_fail_24 ⟨Nat.zero_le _, Nat.zero_le _⟩) hI (st1 := []) rfl (fun H locs hI => ?_)
    refine lv_aload_n hx hb d_Bo_fail_27 rfl (lv_at hl 1 rfl) ?_
    refine gx_getR (o' := 6) G hI cl_Bo (by decide) 3 (by decide) (by decide) fl_Bo_30 d_Bo_fail_28 ?_
    refine lv_aload_n hx hb d_Bo_fail_31 rfl (lv_at hl 1 rfl) ?_
    refine gx_getR (o' := 24) G hI cl_Bo (by decide) 2 (by decide) (by decide) fl_Bo_23 d_Bo_fail_32 ?_
    obtain ⟨σ_8, hc_9, hf⟩ := gx_bve hf
    refine gx_go (va_runV (As := [.ref (adr 24)]) (rest := []) G.1 (ct_Jn_write l D dA adr A hA N 24 σ_6 σ_8 hc_9) (cwV 1 ht gi_Bo_79 rfl rfl rfl (by decide +kernel) ⟨Nat.le_of_ble_eq_true rfl, Nat.le_of_ble_eq_true rfl⟩) (gx_preV G hI cl_Jn (by decide)) rfl rfl hl.1 rfl (lv_room (Nat.le_of_ble_eq_true rfl)) d_Bo_fail_35 ⟨Nat.zero_le _, Nat.zero_le _⟩) hI (st1 := []) rfl (fun H locs hI => ?_)
    refine lv_aload_n hx hb d_Bo_fail_38 rfl (lv_at hl 0 rfl) ?_
    refine gx_getI G hI cl_Jb (gx_ci_j hg_5) 0 (by decide) (gx_rf_j hg_5 0) fl_Bo_83 d_Bo_fail_39 ?_
    cases hf
    exact W.iret hx hb hr (gx_F hI) hI.2.2.2 d_Bo_fail_42
def fn_Bo_tick_L15 (N : Nat) (u1 : Int32) : Nat → Int32 → gx_M → Option (Int32 × gx_M)
  | 0, _, _ => none
  | n + 1, v2, σ => if ((4 : Int32)) ≤ v2 then (gx_lt (gx_up σ 0 4 ((σ 0 4) + u1)) (fun σ_6 => gx_bd (fn_Ro_settleDue N 24 (σ_6 0 4) σ_6) (fun r_9 σ_7 => if r_9 ≤ 0 then (some (r_9, σ_7)) else (gx_bv (fn_Jn_write N 24 σ_7) (fun σ_11 => some (r_9, σ_11)))))) else (if 0 ≤ v2 ∧ v2 < 4 then (gx_bv (fn_Qu_refillBetween N (gx_el 1 v2.toNatClampNeg) (σ 0 4) ((σ 0 4) + u1) σ) (fun σ_14 => fn_Bo_tick_L15 N u1 n (v2 + 1) σ_14)) else none)
def fn_Bo_tick (N : Nat) (p0 : Int32) (σ : gx_M) : Option (Int32 × gx_M) := gx_bd (fn_Bo_within N p0 ((1 : Int32)) ((1000 : Int32)) σ) (fun r_3 σ_1 => if r_3 = 0 then (some ((-1 : Int32), σ_1)) else (fn_Bo_tick_L15 N p0 N ((0 : Int32)) σ_1))
set_option maxHeartbeats 4000000 in
set_option maxRecDepth 100000 in
theorem wl_Bo_tick_L15 {p : Program} {l : Launch} {e : Env} {s : State} {m : MethodId} {args : Array Value} {below : List Frame} {meth : Method} {c : Code} {D : va_G} {dA : Nat → ClassId} {adr : Nat → Nat} {A : Nat → Prop} (G : gx_G p m c b_Bo_tick 3 s args gx_tb R_Bo D dA) (hr : meth.sig.returnType = some .int) (hlocks : meth.locks = false) (hA : gx_A A adr) (N : Nat) (res : Int32 × gx_M) (u1 : Int32) : ∀ (n : Nat) (v2 : Int32) (σ : gx_M) (H : Heap) (locs : List Loc) (ls : Array Slot), fn_Bo_tick_L15 N u1 n v2 σ = some res → gx_I D dA adr A s.heap σ H locs → lv_has ls 3 [(2, .int v2), (0, .ref (adr 0)), (1, .int u1)] → W p l e (headSpec w_Bo_tick rm_Bo_tick).room s m args below meth c H locs 0 0 (MQ below (gx_Q D dA adr A (some (.int res.1)) res.2) args s 0 0 A) (F0 m 15 ls []) := by
  obtain ⟨⟨hx, hb, hml, hown, ht⟩, hK⟩ := id G
  intro n
  induction n with
  | zero =>
    intro v2 σ H locs ls hf
    cases hf
  | succ n ih =>
    intro v2 σ H locs ls hf hI hl
    rw [fn_Bo_tick_L15] at hf
    refine lv_iload_n hx hb d_Bo_tick_15 rfl (lv_at hl 0 rfl) ?_
    refine lv_iconst (v := 4) hx hb d_Bo_tick_16 (by decide) ?_
    refine lv_icmp_ge (tgt := 45) hx hb d_Bo_tick_17 (by decide) (fun c_5 => ?_) (fun c_5 => ?_)
    · replace hf := (if_pos c_5).symm.trans hf
      refine lv_aload_n hx hb d_Bo_tick_45 rfl (lv_at hl 1 rfl) ?_
      refine lv_dup hx hb d_Bo_tick_46 rfl ?_
      refine gx_getI G hI cl_Bo (by decide) 4 (by decide) (by decide) fl_Bo_34 d_Bo_tick_47 ?_
      refine lv_iload_n hx hb d_Bo_tick_50 rfl (lv_at hl 2 rfl) ?_
      refine lv_iadd hx hb d_Bo_tick_51 ?_
      obtain ⟨σ_6, eσ_6, hf⟩ := gx_lte hf
      refine gx_put G hI hA cl_Bo (by decide) 4 (by decide) (by decide) fl_Bo_34 rfl rfl rfl eσ_6 d_Bo_tick_52 (fun H locs hI => ?_)
      refine lv_aload_n hx hb d_Bo_tick_55 rfl (lv_at hl 1 rfl) ?_
      refine gx_getR (o' := 24) G hI cl_Bo (by decide) 2 (by decide) (by decide) fl_Bo_23 d_Bo_tick_56 ?_
      refine lv_aload_n hx hb d_Bo_tick_59 rfl (lv_at hl 1 rfl) ?_
      refine gx_getI G hI cl_Bo (by decide) 4 (by decide) (by decide) fl_Bo_34 d_Bo_tick_60 ?_
      obtain ⟨r_9, σ_7, hc_8, hf⟩ := gx_bde hf
      refine gx_go (va_runV (As := [.int (σ_6 0 4)]) (rest := []) G.1 (ct_Ro_settleDue l D dA adr A hA N 24 (σ_6 0 4) σ_6 r_9 σ_7 hc_8) (cwV 1 ht gi_Bo_139 rfl rfl rfl (by decide +kernel) ⟨Nat.le_of_ble_eq_true rfl, Nat.le_of_ble_eq_true rfl⟩) (gx_preV G hI cl_Ro (gx_ci_r (by decide))) rfl rfl hl.1 rfl (lv_room (Nat.le_of_ble_eq_true rfl)) d_Bo_tick_63 ⟨Nat.zero_le _, Nat.zero_le _⟩) hI (st1 := [.int r_9]) rfl (fun H locs hI => ?_)
      refine lv_istore_n (i := 2) (lv' := [(2, .int r_9), (0, .ref (adr 0)), (1, .int u1)]) hx hb d_Bo_tick_66 rfl hl (by decide) rfl (fun ls hl => ?_)
      refine lv_iload_n hx hb d_Bo_tick_67 rfl (lv_at hl 0 rfl) ?_
      refine lv_if_le (tgt := 82) hx hb d_Bo_tick_68 (by decide) (fun c_10 => ?_) (fun c_10 => ?_)
      · replace hf := (if_pos c_10).symm.trans hf
        refine lv_iload_n hx hb d_Bo_tick_82 rfl (lv_at hl 0 rfl) ?_
        cases hf
        exact W.iret hx hb hr (gx_F hI) hI.2.2.2 d_Bo_tick_83
      · replace hf := (if_neg c_10).symm.trans hf
        refine lv_aload_n hx hb d_Bo_tick_71 rfl (lv_at hl 1 rfl) ?_
        refine gx_getR (o' := 6) G hI cl_Bo (by decide) 3 (by decide) (by decide) fl_Bo_30 d_Bo_tick_72 ?_
        refine lv_aload_n hx hb d_Bo_tick_75 rfl (lv_at hl 1 rfl) ?_
        refine gx_getR (o' := 24) G hI cl_Bo (by decide) 2 (by decide) (by decide) fl_Bo_23 d_Bo_tick_76 ?_
        obtain ⟨σ_11, hc_12, hf⟩ := gx_bve hf
        refine gx_go (va_runV (As := [.ref (adr 24)]) (rest := []) G.1 (ct_Jn_write l D dA adr A hA N 24 σ_7 σ_11 hc_12) (cwV 1 ht gi_Bo_79 rfl rfl rfl (by decide +kernel) ⟨Nat.le_of_ble_eq_true rfl, Nat.le_of_ble_eq_true rfl⟩) (gx_preV G hI cl_Jn (by decide)) rfl rfl hl.1 rfl (lv_room (Nat.le_of_ble_eq_true rfl)) d_Bo_tick_79 ⟨Nat.zero_le _, Nat.zero_le _⟩) hI (st1 := []) rfl (fun H locs hI => ?_)
        refine lv_iload_n hx hb d_Bo_tick_82 rfl (lv_at hl 0 rfl) ?_
        cases hf
        exact W.iret hx hb hr (gx_F hI) hI.2.2.2 d_Bo_tick_83
    · replace hf := (if_neg c_5).symm.trans hf
      refine lv_aload_n hx hb d_Bo_tick_20 rfl (lv_at hl 1 rfl) ?_
      refine gx_getR (o' := 1) G hI cl_Bo (by decide) 1 (by decide) (by decide) fl_Bo_15 d_Bo_tick_21 ?_
      refine lv_iload_n hx hb d_Bo_tick_24 rfl (lv_at hl 0 rfl) ?_
      obtain ⟨hi_13, hf⟩ := gx_gd hf
      refine gx_aldQ G hI hi_13 d_Bo_tick_25 ?_
      refine lv_aload_n hx hb d_Bo_tick_26 rfl (lv_at hl 1 rfl) ?_
      refine gx_getI G hI cl_Bo (by decide) 4 (by decide) (by decide) fl_Bo_34 d_Bo_tick_27 ?_
      refine lv_aload_n hx hb d_Bo_tick_30 rfl (lv_at hl 1 rfl) ?_
      refine gx_getI G hI cl_Bo (by decide) 4 (by decide) (by decide) fl_Bo_34 d_Bo_tick_31 ?_
      refine lv_iload_n hx hb d_Bo_tick_34 rfl (lv_at hl 2 rfl) ?_
      refine lv_iadd hx hb d_Bo_tick_35 ?_
      obtain ⟨σ_14, hc_15, hf⟩ := gx_bve hf
      refine gx_go (va_runV (As := [.int (σ 0 4), .int ((σ 0 4) + u1)]) (rest := []) G.1 (ct_Qu_refillBetween l D dA adr A hA N (gx_el 1 v2.toNatClampNeg) (σ 0 4) ((σ 0 4) + u1) σ σ_14 hc_15) (cwV 2 ht gi_Bo_136 rfl rfl rfl (by decide +kernel) ⟨Nat.le_of_ble_eq_true rfl, Nat.le_of_ble_eq_true rfl⟩) (gx_preV G hI cl_Qu (gx_ci_q (gx_el_q hi_13))) rfl rfl hl.1 rfl (lv_room (Nat.le_of_ble_eq_true rfl)) d_Bo_tick_36 ⟨Nat.zero_le _, Nat.zero_le _⟩) hI (st1 := []) rfl (fun H locs hI => ?_)
      refine lv_iinc (v := v2 + 1) (lv' := [(2, .int (v2 + 1)), (0, .ref (adr 0)), (1, .int u1)]) hx hb d_Bo_tick_39 hl (k := 0) rfl rfl (by decide) rfl (fun ls hl => ?_)
      refine lv_goto (tgt := 15) hx hb d_Bo_tick_42 (by decide) ?_
      exact ih (v2 + 1) σ_14 H locs ls hf hI (lv_sub hl [0, 1, 2] rfl)
set_option maxHeartbeats 4000000 in
set_option maxRecDepth 100000 in
theorem ct_Bo_tick (l : Launch) (D : va_G) (dA : Nat → ClassId) (adr : Nat → Nat) (A : Nat → Prop) (hA : gx_A A adr) (N : Nat) (p0 : Int32) (σ : gx_M) (r : Int32) (σ' : gx_M) (hf : fn_Bo_tick N p0 σ = some (r, σ')) : Met l y_Bo_tick w_Bo_tick rm_Bo_tick (gx_Pc D dA adr σ [.ref (adr 0), .int p0]) (gx_Q D dA adr A (some (.int r)) σ') 0 0 A := by
  refine Met.ofW (cc := b_Bo_tick) (maxL := 3) (ret := some .int) (by decide) rfl ?_
  intro p e s m args below meth c s₁ B hml hv
  obtain ⟨rfl, hP, hK⟩ := hv
  have hx := B.exec
  have hb := B.bytes
  have hr := B.returns
  have hlocks := B.notSynchronized
  have ht : ∀ w ∈ gx_tb, w.before _ s = true := fun w h => atoms_spec (ws := w_Bo_tick) B.pre w (List.mem_cons_of_mem _ h)
  have hown : s.vm.findClass R_Bo = some m.cls := findClass_of_methodNamed B.named
  have G : gx_G p m c b_Bo_tick 3 s _ gx_tb R_Bo D dA := ⟨⟨hx, hb, hml, hown, ht⟩, hK⟩
  have hI : gx_I D dA adr A s.heap σ s.heap [] := ⟨hP, va_S.rf⟩
  have hl := lv_entry ([.ref (adr 0), .int p0]) (n := 3) (Nat.le_of_ble_eq_true rfl)
  rw [lg_entry_eq]
  generalize (lg_sl ([.ref (adr 0), .int p0]) ++ List.replicate (3 - (lg_sl ([.ref (adr 0), .int p0])).length) Slot.unset).toArray = ls at hl ⊢
  have hl : lv_has ls 3 [(0, .ref (adr 0)), (1, .int p0)] := hl
  rw [fn_Bo_tick] at hf
  refine lv_iload_n hx hb d_Bo_tick_0 rfl (lv_at hl 1 rfl) ?_
  refine lv_iconst (v := 1) hx hb d_Bo_tick_1 (by decide) ?_
  refine lv_sipush (v := 1000) hx hb d_Bo_tick_2 (by decide) ?_
  obtain ⟨r_3, σ_1, hc_2, hf⟩ := gx_bde hf
  refine gx_go (va_runS (As := [.int p0, .int ((1 : Int32)), .int ((1000 : Int32))]) (rest := []) G.1 (ct_Bo_within l D dA adr A hA N p0 ((1 : Int32)) ((1000 : Int32)) σ r_3 σ_1 hc_2) (cwS 3 ht gi_Bo_45 rfl rfl rfl (by decide +kernel) ⟨Nat.le_of_ble_eq_true rfl, Nat.le_of_ble_eq_true rfl⟩) (gx_pre G hI) rfl rfl hl.1 rfl (lv_room (Nat.le_of_ble_eq_true rfl)) d_Bo_tick_5 ⟨Nat.zero_le _, Nat.zero_le _⟩) hI (st1 := [.int r_3]) rfl (fun H locs hI => ?_)
  refine lv_if_ne (tgt := 13) hx hb d_Bo_tick_8 (by decide) (fun c_4 => ?_) (fun c_4 => ?_)
  · replace hf := (if_neg c_4).symm.trans hf
    refine lv_iconst (v := 0) hx hb d_Bo_tick_13 (by decide) ?_
    refine lv_istore_n (i := 2) (lv' := [(2, .int ((0 : Int32))), (0, .ref (adr 0)), (1, .int p0)]) hx hb d_Bo_tick_14 rfl hl (by decide) rfl (fun ls hl => ?_)
    exact wl_Bo_tick_L15 G hr hlocks hA N _ p0 N ((0 : Int32)) σ_1 _ _ ls hf hI (lv_sub hl [0, 1, 2] rfl)
  · replace hf := (if_pos c_4).symm.trans hf
    refine lv_iconst (v := (-1)) hx hb d_Bo_tick_11 (by decide) ?_
    cases hf
    exact W.iret hx hb hr (gx_F hI) hI.2.2.2 d_Bo_tick_12
def fn_Bo_revive (N : Nat) (p0 : Int32) (σ : gx_M) : Option (Int32 × gx_M) := gx_bd (fn_Ro_find N 24 p0 σ) (fun x_3 σ_1 => gx_mt x_3 (some ((-1 : Int32), σ_1)) (fun o_4 => if 42 ≤ o_4 ∧ o_4 < 722 then (if (σ_1 o_4 10) = ((5 : Int32)) then (gx_bd (fn_Ro_hasLiveKey N 24 (σ_1 o_4 5) σ_1) (fun r_9 σ_7 => if r_9 = 0 then (gx_lt (gx_up σ_7 o_4 6 ((0 : Int32))) (fun σ_11 => gx_bv (fn_Ro_enter N 24 o_4 ((1 : Int32)) σ_11) (fun σ_12 => gx_bv (fn_Jn_write N 24 σ_12) (fun σ_14 => some ((0 : Int32), σ_14))))) else (some ((-3 : Int32), σ_7)))) else (some ((-1 : Int32), σ_1))) else none))
set_option maxHeartbeats 4000000 in
set_option maxRecDepth 100000 in
theorem ct_Bo_revive (l : Launch) (D : va_G) (dA : Nat → ClassId) (adr : Nat → Nat) (A : Nat → Prop) (hA : gx_A A adr) (N : Nat) (p0 : Int32) (σ : gx_M) (r : Int32) (σ' : gx_M) (hf : fn_Bo_revive N p0 σ = some (r, σ')) : Met l y_Bo_revive w_Bo_revive rm_Bo_revive (gx_Pc D dA adr σ [.ref (adr 0), .int p0]) (gx_Q D dA adr A (some (.int r)) σ') 0 0 A := by
  refine Met.ofW (cc := b_Bo_revive) (maxL := 3) (ret := some .int) (by decide) rfl ?_
  intro p e s m args below meth c s₁ B hml hv
  obtain ⟨rfl, hP, hK⟩ := hv
  have hx := B.exec
  have hb := B.bytes
  have hr := B.returns
  have hlocks := B.notSynchronized
  have ht : ∀ w ∈ gx_tb, w.before _ s = true := fun w h => atoms_spec (ws := w_Bo_revive) B.pre w (List.mem_cons_of_mem _ h)
  have hown : s.vm.findClass R_Bo = some m.cls := findClass_of_methodNamed B.named
  have G : gx_G p m c b_Bo_revive 3 s _ gx_tb R_Bo D dA := ⟨⟨hx, hb, hml, hown, ht⟩, hK⟩
  have hI : gx_I D dA adr A s.heap σ s.heap [] := ⟨hP, va_S.rf⟩
  have hl := lv_entry ([.ref (adr 0), .int p0]) (n := 3) (Nat.le_of_ble_eq_true rfl)
  rw [lg_entry_eq]
  generalize (lg_sl ([.ref (adr 0), .int p0]) ++ List.replicate (3 - (lg_sl ([.ref (adr 0), .int p0])).length) Slot.unset).toArray = ls at hl ⊢
  have hl : lv_has ls 3 [(0, .ref (adr 0)), (1, .int p0)] := hl
  rw [fn_Bo_revive] at hf
  refine lv_aload_n hx hb d_Bo_revive_0 rfl (lv_at hl 0 rfl) ?_
  refine gx_getR (o' := 24) G hI cl_Bo (by decide) 2 (by decide) (by decide) fl_Bo_23 d_Bo_revive_1 ?_
  refine lv_iload_n hx hb d_Bo_revive_4 rfl (lv_at hl 1 rfl) ?_
  obtain ⟨x_3, σ_1, hc_2, hf⟩ := gx_bde hf
  rcases x_3 with _ | o_4
  · replace hf := gx_mtn hf
    refine gx_go (va_runV (As := [.int p0]) (rest := []) G.1 (ct_Ro_find l D dA adr A hA N 24 p0 σ none σ_1 hc_2) (cwV 1 ht gi_Bo_86 rfl rfl rfl (by decide +kernel) ⟨Nat.le_of_ble_eq_true rfl, Nat.le_of_ble_eq_true rfl⟩) (gx_preV G hI cl_Ro (gx_ci_r (by decide))) rfl rfl hl.1 rfl (lv_room (Nat.le_of_ble_eq_true rfl)) d_Bo_revive_5 ⟨Nat.zero_le _, Nat.zero_le _⟩) hI (st1 := [.null]) rfl (fun H locs hI => ?_)
    refine lv_astore_nN (i := 2) (lv' := [(2, .null), (0, .ref (adr 0)), (1, .int p0)]) hx hb d_Bo_revive_8 rfl hl (by decide) rfl (fun ls hl => ?_)
    refine lv_aload_nN hx hb d_Bo_revive_9 rfl (lv_at hl 0 rfl) ?_
    refine lv_ifnullN (tgt := 21) hx hb d_Bo_revive_10 (by decide) ?_
    refine lv_iconst (v := (-1)) hx hb d_Bo_revive_21 (by decide) ?_
    cases hf
    exact W.iret hx hb hr (gx_F hI) hI.2.2.2 d_Bo_revive_22
  · replace hf := gx_mts hf
    obtain ⟨hg_5, hf⟩ := gx_gd hf
    refine gx_go (va_runV (As := [.int p0]) (rest := []) G.1 (ct_Ro_find l D dA adr A hA N 24 p0 σ (some o_4) σ_1 hc_2) (cwV 1 ht gi_Bo_86 rfl rfl rfl (by decide +kernel) ⟨Nat.le_of_ble_eq_true rfl, Nat.le_of_ble_eq_true rfl⟩) (gx_preV G hI cl_Ro (gx_ci_r (by decide))) rfl rfl hl.1 rfl (lv_room (Nat.le_of_ble_eq_true rfl)) d_Bo_revive_5 ⟨Nat.zero_le _, Nat.zero_le _⟩) hI (st1 := [.ref (adr o_4)]) rfl (fun H locs hI => ?_)
    refine lv_astore_n (i := 2) (lv' := [(2, .ref (adr o_4)), (0, .ref (adr 0)), (1, .int p0)]) hx hb d_Bo_revive_8 rfl hl (by decide) rfl (fun ls hl => ?_)
    refine lv_aload_n hx hb d_Bo_revive_9 rfl (lv_at hl 0 rfl) ?_
    refine lv_ifnull hx hb d_Bo_revive_10 ?_
    refine lv_aload_n hx hb d_Bo_revive_13 rfl (lv_at hl 0 rfl) ?_
    refine gx_getI G hI cl_Jb (gx_ci_j hg_5) 10 (by decide) (gx_rf_j hg_5 10) fl_Bo_97 d_Bo_revive_14 ?_
    refine lv_iconst (v := 5) hx hb d_Bo_revive_17 (by decide) ?_
    refine lv_icmp_eq (tgt := 23) hx hb d_Bo_revive_18 (by decide) (fun c_6 => ?_) (fun c_6 => ?_)
    · replace hf := (if_pos c_6).symm.trans hf
      refine lv_aload_n hx hb d_Bo_revive_23 rfl (lv_at hl 1 rfl) ?_
      refine gx_getR (o' := 24) G hI cl_Bo (by decide) 2 (by decide) (by decide) fl_Bo_23 d_Bo_revive_24 ?_
      refine lv_aload_n hx hb d_Bo_revive_27 rfl (lv_at hl 0 rfl) ?_
      refine gx_getI G hI cl_Jb (gx_ci_j hg_5) 5 (by decide) (gx_rf_j hg_5 5) fl_Bo_68 d_Bo_revive_28 ?_
      obtain ⟨r_9, σ_7, hc_8, hf⟩ := gx_bde hf
      refine gx_go (va_runV (As := [.int (σ_1 o_4 5)]) (rest := []) G.1 (ct_Ro_hasLiveKey l D dA adr A hA N 24 (σ_1 o_4 5) σ_1 r_9 σ_7 hc_8) (cwV 1 ht gi_Bo_53 rfl rfl rfl (by decide +kernel) ⟨Nat.le_of_ble_eq_true rfl, Nat.le_of_ble_eq_true rfl⟩) (gx_preV G hI cl_Ro (gx_ci_r (by decide))) rfl rfl hl.1 rfl (lv_room (Nat.le_of_ble_eq_true rfl)) d_Bo_revive_31 ⟨Nat.zero_le _, Nat.zero_le _⟩) hI (st1 := [.int r_9]) rfl (fun H locs hI => ?_)
      refine lv_if_eq (tgt := 40) hx hb d_Bo_revive_34 (by decide) (fun c_10 => ?_) (fun c_10 => ?_)
      · replace hf := (if_pos c_10).symm.trans hf
        refine lv_aload_n hx hb d_Bo_revive_40 rfl (lv_at hl 0 rfl) ?_
        refine lv_iconst (v := 0) hx hb d_Bo_revive_41 (by decide) ?_
        obtain ⟨σ_11, eσ_11, hf⟩ := gx_lte hf
        refine gx_put G hI hA cl_Jb (gx_ci_j hg_5) 6 (by decide) (gx_rf_j hg_5 6) fl_Bo_143 rfl rfl rfl eσ_11 d_Bo_revive_42 (fun H locs hI => ?_)
        refine lv_aload_n hx hb d_Bo_revive_45 rfl (lv_at hl 1 rfl) ?_
        refine gx_getR (o' := 24) G hI cl_Bo (by decide) 2 (by decide) (by decide) fl_Bo_23 d_Bo_revive_46 ?_
        refine lv_aload_n hx hb d_Bo_revive_49 rfl (lv_at hl 0 rfl) ?_
        refine lv_iconst (v := 1) hx hb d_Bo_revive_50 (by decide) ?_
        obtain ⟨σ_12, hc_13, hf⟩ := gx_bve hf
        refine gx_go (va_runV (As := [.ref (adr o_4), .int ((1 : Int32))]) (rest := []) G.1 (ct_Ro_enter l D dA adr A hA N 24 o_4 ((1 : Int32)) σ_11 σ_12 hc_13) (cwV 2 ht gi_Bo_71 rfl rfl rfl (by decide +kernel) ⟨Nat.le_of_ble_eq_true rfl, Nat.le_of_ble_eq_true rfl⟩) (gx_preV G hI cl_Ro (gx_ci_r (by decide))) rfl rfl hl.1 rfl (lv_room (Nat.le_of_ble_eq_true rfl)) d_Bo_revive_51 ⟨Nat.zero_le _, Nat.zero_le _⟩) hI (st1 := []) rfl (fun H locs hI => ?_)
        refine lv_aload_n hx hb d_Bo_revive_54 rfl (lv_at hl 1 rfl) ?_
        refine gx_getR (o' := 6) G hI cl_Bo (by decide) 3 (by decide) (by decide) fl_Bo_30 d_Bo_revive_55 ?_
        refine lv_aload_n hx hb d_Bo_revive_58 rfl (lv_at hl 1 rfl) ?_
        refine gx_getR (o' := 24) G hI cl_Bo (by decide) 2 (by decide) (by decide) fl_Bo_23 d_Bo_revive_59 ?_
        obtain ⟨σ_14, hc_15, hf⟩ := gx_bve hf
        refine gx_go (va_runV (As := [.ref (adr 24)]) (rest := []) G.1 (ct_Jn_write l D dA adr A hA N 24 σ_12 σ_14 hc_15) (cwV 1 ht gi_Bo_79 rfl rfl rfl (by decide +kernel) ⟨Nat.le_of_ble_eq_true rfl, Nat.le_of_ble_eq_true rfl⟩) (gx_preV G hI cl_Jn (by decide)) rfl rfl hl.1 rfl (lv_room (Nat.le_of_ble_eq_true rfl)) d_Bo_revive_62 ⟨Nat.zero_le _, Nat.zero_le _⟩) hI (st1 := []) rfl (fun H locs hI => ?_)
        refine lv_iconst (v := 0) hx hb d_Bo_revive_65 (by decide) ?_
        cases hf
        exact W.iret hx hb hr (gx_F hI) hI.2.2.2 d_Bo_revive_66
      · replace hf := (if_neg c_10).symm.trans hf
        refine lv_bipush (v := (-3)) hx hb d_Bo_revive_37 (by decide) ?_
        cases hf
        exact W.iret hx hb hr (gx_F hI) hI.2.2.2 d_Bo_revive_39
    · replace hf := (if_neg c_6).symm.trans hf
      refine lv_iconst (v := (-1)) hx hb d_Bo_revive_21 (by decide) ?_
      cases hf
      exact W.iret hx hb hr (gx_F hI) hI.2.2.2 d_Bo_revive_22
def fn_Bo_kill (N : Nat) (p0 : Int32) (σ : gx_M) : Option (Int32 × gx_M) := gx_bd (fn_Ro_find N 24 p0 σ) (fun x_3 σ_1 => gx_mt x_3 (some ((-1 : Int32), σ_1)) (fun o_4 => if 42 ≤ o_4 ∧ o_4 < 722 then (gx_bd (fn_Jb_isLive N o_4 σ_1) (fun r_8 σ_6 => if r_8 = 0 then (some ((-1 : Int32), σ_6)) else (if (σ_6 o_4 10) = ((2 : Int32)) then (some ((-1 : Int32), σ_6)) else (gx_bv (fn_Ro_bury N 24 o_4 σ_6) (fun σ_11 => gx_bv (fn_Jn_write N 24 σ_11) (fun σ_13 => some ((0 : Int32), σ_13))))))) else none))
set_option maxHeartbeats 4000000 in
set_option maxRecDepth 100000 in
theorem ct_Bo_kill (l : Launch) (D : va_G) (dA : Nat → ClassId) (adr : Nat → Nat) (A : Nat → Prop) (hA : gx_A A adr) (N : Nat) (p0 : Int32) (σ : gx_M) (r : Int32) (σ' : gx_M) (hf : fn_Bo_kill N p0 σ = some (r, σ')) : Met l y_Bo_kill w_Bo_kill rm_Bo_kill (gx_Pc D dA adr σ [.ref (adr 0), .int p0]) (gx_Q D dA adr A (some (.int r)) σ') 0 0 A := by
  refine Met.ofW (cc := b_Bo_kill) (maxL := 3) (ret := some .int) (by decide) rfl ?_
  intro p e s m args below meth c s₁ B hml hv
  obtain ⟨rfl, hP, hK⟩ := hv
  have hx := B.exec
  have hb := B.bytes
  have hr := B.returns
  have hlocks := B.notSynchronized
  have ht : ∀ w ∈ gx_tb, w.before _ s = true := fun w h => atoms_spec (ws := w_Bo_kill) B.pre w (List.mem_cons_of_mem _ h)
  have hown : s.vm.findClass R_Bo = some m.cls := findClass_of_methodNamed B.named
  have G : gx_G p m c b_Bo_kill 3 s _ gx_tb R_Bo D dA := ⟨⟨hx, hb, hml, hown, ht⟩, hK⟩
  have hI : gx_I D dA adr A s.heap σ s.heap [] := ⟨hP, va_S.rf⟩
  have hl := lv_entry ([.ref (adr 0), .int p0]) (n := 3) (Nat.le_of_ble_eq_true rfl)
  rw [lg_entry_eq]
  generalize (lg_sl ([.ref (adr 0), .int p0]) ++ List.replicate (3 - (lg_sl ([.ref (adr 0), .int p0])).length) Slot.unset).toArray = ls at hl ⊢
  have hl : lv_has ls 3 [(0, .ref (adr 0)), (1, .int p0)] := hl
  rw [fn_Bo_kill] at hf
  refine lv_aload_n hx hb d_Bo_kill_0 rfl (lv_at hl 0 rfl) ?_
  refine gx_getR (o' := 24) G hI cl_Bo (by decide) 2 (by decide) (by decide) fl_Bo_23 d_Bo_kill_1 ?_
  refine lv_iload_n hx hb d_Bo_kill_4 rfl (lv_at hl 1 rfl) ?_
  obtain ⟨x_3, σ_1, hc_2, hf⟩ := gx_bde hf
  rcases x_3 with _ | o_4
  · replace hf := gx_mtn hf
    refine gx_go (va_runV (As := [.int p0]) (rest := []) G.1 (ct_Ro_find l D dA adr A hA N 24 p0 σ none σ_1 hc_2) (cwV 1 ht gi_Bo_86 rfl rfl rfl (by decide +kernel) ⟨Nat.le_of_ble_eq_true rfl, Nat.le_of_ble_eq_true rfl⟩) (gx_preV G hI cl_Ro (gx_ci_r (by decide))) rfl rfl hl.1 rfl (lv_room (Nat.le_of_ble_eq_true rfl)) d_Bo_kill_5 ⟨Nat.zero_le _, Nat.zero_le _⟩) hI (st1 := [.null]) rfl (fun H locs hI => ?_)
    refine lv_astore_nN (i := 2) (lv' := [(2, .null), (0, .ref (adr 0)), (1, .int p0)]) hx hb d_Bo_kill_8 rfl hl (by decide) rfl (fun ls hl => ?_)
    refine lv_aload_nN hx hb d_Bo_kill_9 rfl (lv_at hl 0 rfl) ?_
    refine lv_ifnullN (tgt := 28) hx hb d_Bo_kill_10 (by decide) ?_
    refine lv_iconst (v := (-1)) hx hb d_Bo_kill_28 (by decide) ?_
    cases hf
    exact W.iret hx hb hr (gx_F hI) hI.2.2.2 d_Bo_kill_29
  · replace hf := gx_mts hf
    obtain ⟨hg_5, hf⟩ := gx_gd hf
    refine gx_go (va_runV (As := [.int p0]) (rest := []) G.1 (ct_Ro_find l D dA adr A hA N 24 p0 σ (some o_4) σ_1 hc_2) (cwV 1 ht gi_Bo_86 rfl rfl rfl (by decide +kernel) ⟨Nat.le_of_ble_eq_true rfl, Nat.le_of_ble_eq_true rfl⟩) (gx_preV G hI cl_Ro (gx_ci_r (by decide))) rfl rfl hl.1 rfl (lv_room (Nat.le_of_ble_eq_true rfl)) d_Bo_kill_5 ⟨Nat.zero_le _, Nat.zero_le _⟩) hI (st1 := [.ref (adr o_4)]) rfl (fun H locs hI => ?_)
    refine lv_astore_n (i := 2) (lv' := [(2, .ref (adr o_4)), (0, .ref (adr 0)), (1, .int p0)]) hx hb d_Bo_kill_8 rfl hl (by decide) rfl (fun ls hl => ?_)
    refine lv_aload_n hx hb d_Bo_kill_9 rfl (lv_at hl 0 rfl) ?_
    refine lv_ifnull hx hb d_Bo_kill_10 ?_
    refine lv_aload_n hx hb d_Bo_kill_13 rfl (lv_at hl 0 rfl) ?_
    obtain ⟨r_8, σ_6, hc_7, hf⟩ := gx_bde hf
    refine gx_go (va_runV (As := []) (rest := []) G.1 (ct_Jb_isLive l D dA adr A hA N o_4 σ_1 r_8 σ_6 hc_7) (cwV 0 ht gi_Bo_90 rfl rfl rfl (by decide +kernel) ⟨Nat.le_of_ble_eq_true rfl, Nat.le_of_ble_eq_true rfl⟩) (gx_preV G hI cl_Jb (gx_ci_j hg_5)) rfl rfl hl.1 rfl (lv_room (Nat.le_of_ble_eq_true rfl)) d_Bo_kill_14 ⟨Nat.zero_le _, Nat.zero_le _⟩) hI (st1 := [.int r_8]) rfl (fun H locs hI => ?_)
    refine lv_if_eq (tgt := 28) hx hb d_Bo_kill_17 (by decide) (fun c_9 => ?_) (fun c_9 => ?_)
    · replace hf := (if_pos c_9).symm.trans hf
      refine lv_iconst (v := (-1)) hx hb d_Bo_kill_28 (by decide) ?_
      cases hf
      exact W.iret hx hb hr (gx_F hI) hI.2.2.2 d_Bo_kill_29
    · replace hf := (if_neg c_9).symm.trans hf
      refine lv_aload_n hx hb d_Bo_kill_20 rfl (lv_at hl 0 rfl) ?_
      refine gx_getI G hI cl_Jb (gx_ci_j hg_5) 10 (by decide) (gx_rf_j hg_5 10) fl_Bo_97 d_Bo_kill_21 ?_
      refine lv_iconst (v := 2) hx hb d_Bo_kill_24 (by decide) ?_
      refine lv_icmp_ne (tgt := 30) hx hb d_Bo_kill_25 (by decide) (fun c_10 => ?_) (fun c_10 => ?_)
      · replace hf := (if_neg c_10).symm.trans hf
        refine lv_aload_n hx hb d_Bo_kill_30 rfl (lv_at hl 1 rfl) ?_
        refine gx_getR (o' := 24) G hI cl_Bo (by decide) 2 (by decide) (by decide) fl_Bo_23 d_Bo_kill_31 ?_
        refine lv_aload_n hx hb d_Bo_kill_34 rfl (lv_at hl 0 rfl) ?_
        obtain ⟨σ_11, hc_12, hf⟩ := gx_bve hf
        refine gx_go (va_runV (As := [.ref (adr o_4)]) (rest := []) G.1 (ct_Ro_bury l D dA adr A hA N 24 o_4 σ_6 σ_11 hc_12) (cwV 1 ht gi_Bo_146 rfl rfl rfl (by decide +kernel) ⟨Nat.le_of_ble_eq_true rfl, Nat.le_of_ble_eq_true rfl⟩) (gx_preV G hI cl_Ro (gx_ci_r (by decide))) rfl rfl hl.1 rfl (lv_room (Nat.le_of_ble_eq_true rfl)) d_Bo_kill_35 ⟨Nat.zero_le _, Nat.zero_le _⟩) hI (st1 := []) rfl (fun H locs hI => ?_)
        refine lv_aload_n hx hb d_Bo_kill_38 rfl (lv_at hl 1 rfl) ?_
        refine gx_getR (o' := 6) G hI cl_Bo (by decide) 3 (by decide) (by decide) fl_Bo_30 d_Bo_kill_39 ?_
        refine lv_aload_n hx hb d_Bo_kill_42 rfl (lv_at hl 1 rfl) ?_
        refine gx_getR (o' := 24) G hI cl_Bo (by decide) 2 (by decide) (by decide) fl_Bo_23 d_Bo_kill_43 ?_
        obtain ⟨σ_13, hc_14, hf⟩ := gx_bve hf
        refine gx_go (va_runV (As := [.ref (adr 24)]) (rest := []) G.1 (ct_Jn_write l D dA adr A hA N 24 σ_11 σ_13 hc_14) (cwV 1 ht gi_Bo_79 rfl rfl rfl (by decide +kernel) ⟨Nat.le_of_ble_eq_true rfl, Nat.le_of_ble_eq_true rfl⟩) (gx_preV G hI cl_Jn (by decide)) rfl rfl hl.1 rfl (lv_room (Nat.le_of_ble_eq_true rfl)) d_Bo_kill_46 ⟨Nat.zero_le _, Nat.zero_le _⟩) hI (st1 := []) rfl (fun H locs hI => ?_)
        refine lv_iconst (v := 0) hx hb d_Bo_kill_49 (by decide) ?_
        cases hf
        exact W.iret hx hb hr (gx_F hI) hI.2.2.2 d_Bo_kill_50
      · replace hf := (if_pos c_10).symm.trans hf
        refine lv_iconst (v := (-1)) hx hb d_Bo_kill_28 (by decide) ?_
        cases hf
        exact W.iret hx hb hr (gx_F hI) hI.2.2.2 d_Bo_kill_29
def fn_Bo_flush (N : Nat) (σ : gx_M) : Option (Int32 × gx_M) := gx_bd (fn_Jn_flushAll N 24 σ) (fun r_3 σ_1 => some (r_3, σ_1))
set_option maxHeartbeats 4000000 in
set_option maxRecDepth 100000 in
theorem ct_Bo_flush (l : Launch) (D : va_G) (dA : Nat → ClassId) (adr : Nat → Nat) (A : Nat → Prop) (hA : gx_A A adr) (N : Nat) (σ : gx_M) (r : Int32) (σ' : gx_M) (hf : fn_Bo_flush N σ = some (r, σ')) : Met l y_Bo_flush w_Bo_flush rm_Bo_flush (gx_Pc D dA adr σ [.ref (adr 0)]) (gx_Q D dA adr A (some (.int r)) σ') 0 0 A := by
  refine Met.ofW (cc := b_Bo_flush) (maxL := 1) (ret := some .int) (by decide) rfl ?_
  intro p e s m args below meth c s₁ B hml hv
  obtain ⟨rfl, hP, hK⟩ := hv
  have hx := B.exec
  have hb := B.bytes
  have hr := B.returns
  have hlocks := B.notSynchronized
  have ht : ∀ w ∈ gx_tb, w.before _ s = true := fun w h => atoms_spec (ws := w_Bo_flush) B.pre w (List.mem_cons_of_mem _ h)
  have hown : s.vm.findClass R_Bo = some m.cls := findClass_of_methodNamed B.named
  have G : gx_G p m c b_Bo_flush 1 s _ gx_tb R_Bo D dA := ⟨⟨hx, hb, hml, hown, ht⟩, hK⟩
  have hI : gx_I D dA adr A s.heap σ s.heap [] := ⟨hP, va_S.rf⟩
  have hl := lv_entry ([.ref (adr 0)]) (n := 1) (Nat.le_of_ble_eq_true rfl)
  rw [lg_entry_eq]
  generalize (lg_sl ([.ref (adr 0)]) ++ List.replicate (1 - (lg_sl ([.ref (adr 0)])).length) Slot.unset).toArray = ls at hl ⊢
  have hl : lv_has ls 1 [(0, .ref (adr 0))] := hl
  rw [fn_Bo_flush] at hf
  refine lv_aload_n hx hb d_Bo_flush_0 rfl (lv_at hl 0 rfl) ?_
  refine gx_getR (o' := 6) G hI cl_Bo (by decide) 3 (by decide) (by decide) fl_Bo_30 d_Bo_flush_1 ?_
  refine lv_aload_n hx hb d_Bo_flush_4 rfl (lv_at hl 0 rfl) ?_
  refine gx_getR (o' := 24) G hI cl_Bo (by decide) 2 (by decide) (by decide) fl_Bo_23 d_Bo_flush_5 ?_
  obtain ⟨r_3, σ_1, hc_2, hf⟩ := gx_bde hf
  refine gx_go (va_runV (As := [.ref (adr 24)]) (rest := []) G.1 (ct_Jn_flushAll l D dA adr A hA N 24 σ r_3 σ_1 hc_2) (cwV 1 ht gi_Bo_149 rfl rfl rfl (by decide +kernel) ⟨Nat.le_of_ble_eq_true rfl, Nat.le_of_ble_eq_true rfl⟩) (gx_preV G hI cl_Jn (by decide)) rfl rfl hl.1 rfl (lv_room (Nat.le_of_ble_eq_true rfl)) d_Bo_flush_8 ⟨Nat.zero_le _, Nat.zero_le _⟩) hI (st1 := [.int r_3]) rfl (fun H locs hI => ?_)
  cases hf
  exact W.iret hx hb hr (gx_F hI) hI.2.2.2 d_Bo_flush_11
def fn_Bo_crash_L34 (N : Nat) (u2 : Int32) : Nat → Int32 → gx_M → Option (Int32 × gx_M)
  | 0, _, _ => none
  | n + 1, v3, σ => if ((4 : Int32)) ≤ v3 then (gx_lt (gx_up σ 0 5 ((-1 : Int32))) (fun σ_10 => gx_bd (fn_Jn_flushAll N 24 σ_10) (fun r_13 σ_11 => some (u2, σ_11)))) else (if 0 ≤ v3 ∧ v3 < 4 then (gx_bv (fn_Qu_restart N (gx_el 1 v3.toNatClampNeg) σ) (fun σ_15 => fn_Bo_crash_L34 N u2 n (v3 + 1) σ_15)) else none)
def fn_Bo_crash (N : Nat) (p0 : Int32) (σ : gx_M) : Option (Int32 × gx_M) := gx_bd (fn_Jn_restore N 24 p0 σ) (fun r_3 σ_1 => gx_bv (fn_Ro_releaseReserved N 24 σ_1) (fun σ_4 => gx_bd (fn_Ro_settleDue N 24 (σ_4 0 4) σ_4) (fun r_8 σ_6 => fn_Bo_crash_L34 N r_3 N ((0 : Int32)) σ_6)))
set_option maxHeartbeats 4000000 in
set_option maxRecDepth 100000 in
theorem wl_Bo_crash_L34 {p : Program} {l : Launch} {e : Env} {s : State} {m : MethodId} {args : Array Value} {below : List Frame} {meth : Method} {c : Code} {D : va_G} {dA : Nat → ClassId} {adr : Nat → Nat} {A : Nat → Prop} (G : gx_G p m c b_Bo_crash 4 s args gx_tb R_Bo D dA) (hr : meth.sig.returnType = some .int) (hlocks : meth.locks = false) (hA : gx_A A adr) (N : Nat) (res : Int32 × gx_M) (u2 : Int32) : ∀ (n : Nat) (v3 : Int32) (σ : gx_M) (H : Heap) (locs : List Loc) (ls : Array Slot), fn_Bo_crash_L34 N u2 n v3 σ = some res → gx_I D dA adr A s.heap σ H locs → lv_has ls 4 [(3, .int v3), (2, .int u2), (0, .ref (adr 0))] → W p l e (headSpec w_Bo_crash rm_Bo_crash).room s m args below meth c H locs 0 0 (MQ below (gx_Q D dA adr A (some (.int res.1)) res.2) args s 0 0 A) (F0 m 34 ls []) := by
  obtain ⟨⟨hx, hb, hml, hown, ht⟩, hK⟩ := id G
  intro n
  induction n with
  | zero =>
    intro v3 σ H locs ls hf
    cases hf
  | succ n ih =>
    intro v3 σ H locs ls hf hI hl
    rw [fn_Bo_crash_L34] at hf
    refine lv_iload_n hx hb d_Bo_crash_34 rfl (lv_at hl 0 rfl) ?_
    refine lv_iconst (v := 4) hx hb d_Bo_crash_35 (by decide) ?_
    refine lv_icmp_ge (tgt := 54) hx hb d_Bo_crash_36 (by decide) (fun c_9 => ?_) (fun c_9 => ?_)
    · replace hf := (if_pos c_9).symm.trans hf
      refine lv_aload_n hx hb d_Bo_crash_54 rfl (lv_at hl 2 rfl) ?_
      refine lv_iconst (v := (-1)) hx hb d_Bo_crash_55 (by decide) ?_
      obtain ⟨σ_10, eσ_10, hf⟩ := gx_lte hf
      refine gx_put G hI hA cl_Bo (by decide) 5 (by decide) (by decide) fl_Bo_38 rfl rfl rfl eσ_10 d_Bo_crash_56 (fun H locs hI => ?_)
      refine lv_aload_n hx hb d_Bo_crash_59 rfl (lv_at hl 2 rfl) ?_
      refine gx_getR (o' := 6) G hI cl_Bo (by decide) 3 (by decide) (by decide) fl_Bo_30 d_Bo_crash_60 ?_
      refine lv_aload_n hx hb d_Bo_crash_63 rfl (lv_at hl 2 rfl) ?_
      refine gx_getR (o' := 24) G hI cl_Bo (by decide) 2 (by decide) (by decide) fl_Bo_23 d_Bo_crash_64 ?_
      obtain ⟨r_13, σ_11, hc_12, hf⟩ := gx_bde hf
      refine gx_go (va_runV (As := [.ref (adr 24)]) (rest := []) G.1 (ct_Jn_flushAll l D dA adr A hA N 24 σ_10 r_13 σ_11 hc_12) (cwV 1 ht gi_Bo_149 rfl rfl rfl (by decide +kernel) ⟨Nat.le_of_ble_eq_true rfl, Nat.le_of_ble_eq_true rfl⟩) (gx_preV G hI cl_Jn (by decide)) rfl rfl hl.1 rfl (lv_room (Nat.le_of_ble_eq_true rfl)) d_Bo_crash_67 ⟨Nat.zero_le _, Nat.zero_le _⟩) hI (st1 := [.int r_13]) rfl (fun H locs hI => ?_)
      refine lv_pop hx hb d_Bo_crash_70 rfl ?_
      refine lv_iload_n hx hb d_Bo_crash_71 rfl (lv_at hl 1 rfl) ?_
      cases hf
      exact W.iret hx hb hr (gx_F hI) hI.2.2.2 d_Bo_crash_72
    · replace hf := (if_neg c_9).symm.trans hf
      refine lv_aload_n hx hb d_Bo_crash_39 rfl (lv_at hl 2 rfl) ?_
      refine gx_getR (o' := 1) G hI cl_Bo (by decide) 1 (by decide) (by decide) fl_Bo_15 d_Bo_crash_40 ?_
      refine lv_iload_n hx hb d_Bo_crash_43 rfl (lv_at hl 0 rfl) ?_
      obtain ⟨hi_14, hf⟩ := gx_gd hf
      refine gx_aldQ G hI hi_14 d_Bo_crash_44 ?_
      obtain ⟨σ_15, hc_16, hf⟩ := gx_bve hf
      refine gx_go (va_runV (As := []) (rest := []) G.1 (ct_Qu_restart l D dA adr A hA N (gx_el 1 v3.toNatClampNeg) σ σ_15 hc_16) (cwV 0 ht gi_Bo_160 rfl rfl rfl (by decide +kernel) ⟨Nat.le_of_ble_eq_true rfl, Nat.le_of_ble_eq_true rfl⟩) (gx_preV G hI cl_Qu (gx_ci_q (gx_el_q hi_14))) rfl rfl hl.1 rfl (lv_room (Nat.le_of_ble_eq_true rfl)) d_Bo_crash_45 ⟨Nat.zero_le _, Nat.zero_le _⟩) hI (st1 := []) rfl (fun H locs hI => ?_)
      refine lv_iinc (v := v3 + 1) (lv' := [(3, .int (v3 + 1)), (2, .int u2), (0, .ref (adr 0))]) hx hb d_Bo_crash_48 hl (k := 0) rfl rfl (by decide) rfl (fun ls hl => ?_)
      refine lv_goto (tgt := 34) hx hb d_Bo_crash_51 (by decide) ?_
      exact ih (v3 + 1) σ_15 H locs ls hf hI (lv_sub hl [0, 1, 2] rfl)
set_option maxHeartbeats 4000000 in
set_option maxRecDepth 100000 in
theorem ct_Bo_crash (l : Launch) (D : va_G) (dA : Nat → ClassId) (adr : Nat → Nat) (A : Nat → Prop) (hA : gx_A A adr) (N : Nat) (p0 : Int32) (σ : gx_M) (r : Int32) (σ' : gx_M) (hf : fn_Bo_crash N p0 σ = some (r, σ')) : Met l y_Bo_crash w_Bo_crash rm_Bo_crash (gx_Pc D dA adr σ [.ref (adr 0), .int p0]) (gx_Q D dA adr A (some (.int r)) σ') 0 0 A := by
  refine Met.ofW (cc := b_Bo_crash) (maxL := 4) (ret := some .int) (by decide) rfl ?_
  intro p e s m args below meth c s₁ B hml hv
  obtain ⟨rfl, hP, hK⟩ := hv
  have hx := B.exec
  have hb := B.bytes
  have hr := B.returns
  have hlocks := B.notSynchronized
  have ht : ∀ w ∈ gx_tb, w.before _ s = true := fun w h => atoms_spec (ws := w_Bo_crash) B.pre w (List.mem_cons_of_mem _ h)
  have hown : s.vm.findClass R_Bo = some m.cls := findClass_of_methodNamed B.named
  have G : gx_G p m c b_Bo_crash 4 s _ gx_tb R_Bo D dA := ⟨⟨hx, hb, hml, hown, ht⟩, hK⟩
  have hI : gx_I D dA adr A s.heap σ s.heap [] := ⟨hP, va_S.rf⟩
  have hl := lv_entry ([.ref (adr 0), .int p0]) (n := 4) (Nat.le_of_ble_eq_true rfl)
  rw [lg_entry_eq]
  generalize (lg_sl ([.ref (adr 0), .int p0]) ++ List.replicate (4 - (lg_sl ([.ref (adr 0), .int p0])).length) Slot.unset).toArray = ls at hl ⊢
  have hl : lv_has ls 4 [(0, .ref (adr 0)), (1, .int p0)] := hl
  rw [fn_Bo_crash] at hf
  refine lv_aload_n hx hb d_Bo_crash_0 rfl (lv_at hl 0 rfl) ?_
  refine gx_getR (o' := 6) G hI cl_Bo (by decide) 3 (by decide) (by decide) fl_Bo_30 d_Bo_crash_1 ?_
  refine lv_aload_n hx hb d_Bo_crash_4 rfl (lv_at hl 0 rfl) ?_
  refine gx_getR (o' := 24) G hI cl_Bo (by decide) 2 (by decide) (by decide) fl_Bo_23 d_Bo_crash_5 ?_
  refine lv_iload_n hx hb d_Bo_crash_8 rfl (lv_at hl 1 rfl) ?_
  obtain ⟨r_3, σ_1, hc_2, hf⟩ := gx_bde hf
  refine gx_go (va_runV (As := [.ref (adr 24), .int p0]) (rest := []) G.1 (ct_Jn_restore l D dA adr A hA N 24 p0 σ r_3 σ_1 hc_2) (cwV 2 ht gi_Bo_153 rfl rfl rfl (by decide +kernel) ⟨Nat.le_of_ble_eq_true rfl, Nat.le_of_ble_eq_true rfl⟩) (gx_preV G hI cl_Jn (by decide)) rfl rfl hl.1 rfl (lv_room (Nat.le_of_ble_eq_true rfl)) d_Bo_crash_9 ⟨Nat.zero_le _, Nat.zero_le _⟩) hI (st1 := [.int r_3]) rfl (fun H locs hI => ?_)
  refine lv_istore_n (i := 2) (lv' := [(2, .int r_3), (0, .ref (adr 0)), (1, .int p0)]) hx hb d_Bo_crash_12 rfl hl (by decide) rfl (fun ls hl => ?_)
  refine lv_aload_n hx hb d_Bo_crash_13 rfl (lv_at hl 1 rfl) ?_
  refine gx_getR (o' := 24) G hI cl_Bo (by decide) 2 (by decide) (by decide) fl_Bo_23 d_Bo_crash_14 ?_
  obtain ⟨σ_4, hc_5, hf⟩ := gx_bve hf
  refine gx_go (va_runV (As := []) (rest := []) G.1 (ct_Ro_releaseReserved l D dA adr A hA N 24 σ_1 σ_4 hc_5) (cwV 0 ht gi_Bo_157 rfl rfl rfl (by decide +kernel) ⟨Nat.le_of_ble_eq_true rfl, Nat.le_of_ble_eq_true rfl⟩) (gx_preV G hI cl_Ro (gx_ci_r (by decide))) rfl rfl hl.1 rfl (lv_room (Nat.le_of_ble_eq_true rfl)) d_Bo_crash_17 ⟨Nat.zero_le _, Nat.zero_le _⟩) hI (st1 := []) rfl (fun H locs hI => ?_)
  refine lv_aload_n hx hb d_Bo_crash_20 rfl (lv_at hl 1 rfl) ?_
  refine gx_getR (o' := 24) G hI cl_Bo (by decide) 2 (by decide) (by decide) fl_Bo_23 d_Bo_crash_21 ?_
  refine lv_aload_n hx hb d_Bo_crash_24 rfl (lv_at hl 1 rfl) ?_
  refine gx_getI G hI cl_Bo (by decide) 4 (by decide) (by decide) fl_Bo_34 d_Bo_crash_25 ?_
  obtain ⟨r_8, σ_6, hc_7, hf⟩ := gx_bde hf
  refine gx_go (va_runV (As := [.int (σ_4 0 4)]) (rest := []) G.1 (ct_Ro_settleDue l D dA adr A hA N 24 (σ_4 0 4) σ_4 r_8 σ_6 hc_7) (cwV 1 ht gi_Bo_139 rfl rfl rfl (by decide +kernel) ⟨Nat.le_of_ble_eq_true rfl, Nat.le_of_ble_eq_true rfl⟩) (gx_preV G hI cl_Ro (gx_ci_r (by decide))) rfl rfl hl.1 rfl (lv_room (Nat.le_of_ble_eq_true rfl)) d_Bo_crash_28 ⟨Nat.zero_le _, Nat.zero_le _⟩) hI (st1 := [.int r_8]) rfl (fun H locs hI => ?_)
  refine lv_pop hx hb d_Bo_crash_31 rfl ?_
  refine lv_iconst (v := 0) hx hb d_Bo_crash_32 (by decide) ?_
  refine lv_istore_n (i := 3) (lv' := [(3, .int ((0 : Int32))), (2, .int r_3), (0, .ref (adr 0)), (1, .int p0)]) hx hb d_Bo_crash_33 rfl hl (by decide) rfl (fun ls hl => ?_)
  exact wl_Bo_crash_L34 G hr hlocks hA N _ r_3 N ((0 : Int32)) σ_6 _ _ ls hf hI (lv_sub hl [0, 1, 2] rfl)
def fn_Bo_state (N : Nat) (p0 : Int32) (σ : gx_M) : Option (Int32 × gx_M) := gx_bd (fn_Ro_find N 24 p0 σ) (fun x_3 σ_1 => gx_mt x_3 (some ((-1 : Int32), σ_1)) (fun o_4 => if 42 ≤ o_4 ∧ o_4 < 722 then (some (σ_1 o_4 10, σ_1)) else none))
set_option maxHeartbeats 4000000 in
set_option maxRecDepth 100000 in
theorem ct_Bo_state (l : Launch) (D : va_G) (dA : Nat → ClassId) (adr : Nat → Nat) (A : Nat → Prop) (hA : gx_A A adr) (N : Nat) (p0 : Int32) (σ : gx_M) (r : Int32) (σ' : gx_M) (hf : fn_Bo_state N p0 σ = some (r, σ')) : Met l y_Bo_state w_Bo_state rm_Bo_state (gx_Pc D dA adr σ [.ref (adr 0), .int p0]) (gx_Q D dA adr A (some (.int r)) σ') 0 0 A := by
  refine Met.ofW (cc := b_Bo_state) (maxL := 3) (ret := some .int) (by decide) rfl ?_
  intro p e s m args below meth c s₁ B hml hv
  obtain ⟨rfl, hP, hK⟩ := hv
  have hx := B.exec
  have hb := B.bytes
  have hr := B.returns
  have hlocks := B.notSynchronized
  have ht : ∀ w ∈ gx_tb, w.before _ s = true := fun w h => atoms_spec (ws := w_Bo_state) B.pre w (List.mem_cons_of_mem _ h)
  have hown : s.vm.findClass R_Bo = some m.cls := findClass_of_methodNamed B.named
  have G : gx_G p m c b_Bo_state 3 s _ gx_tb R_Bo D dA := ⟨⟨hx, hb, hml, hown, ht⟩, hK⟩
  have hI : gx_I D dA adr A s.heap σ s.heap [] := ⟨hP, va_S.rf⟩
  have hl := lv_entry ([.ref (adr 0), .int p0]) (n := 3) (Nat.le_of_ble_eq_true rfl)
  rw [lg_entry_eq]
  generalize (lg_sl ([.ref (adr 0), .int p0]) ++ List.replicate (3 - (lg_sl ([.ref (adr 0), .int p0])).length) Slot.unset).toArray = ls at hl ⊢
  have hl : lv_has ls 3 [(0, .ref (adr 0)), (1, .int p0)] := hl
  rw [fn_Bo_state] at hf
  refine lv_aload_n hx hb d_Bo_state_0 rfl (lv_at hl 0 rfl) ?_
  refine gx_getR (o' := 24) G hI cl_Bo (by decide) 2 (by decide) (by decide) fl_Bo_23 d_Bo_state_1 ?_
  refine lv_iload_n hx hb d_Bo_state_4 rfl (lv_at hl 1 rfl) ?_
  obtain ⟨x_3, σ_1, hc_2, hf⟩ := gx_bde hf
  rcases x_3 with _ | o_4
  · replace hf := gx_mtn hf
    refine gx_go (va_runV (As := [.int p0]) (rest := []) G.1 (ct_Ro_find l D dA adr A hA N 24 p0 σ none σ_1 hc_2) (cwV 1 ht gi_Bo_86 rfl rfl rfl (by decide +kernel) ⟨Nat.le_of_ble_eq_true rfl, Nat.le_of_ble_eq_true rfl⟩) (gx_preV G hI cl_Ro (gx_ci_r (by decide))) rfl rfl hl.1 rfl (lv_room (Nat.le_of_ble_eq_true rfl)) d_Bo_state_5 ⟨Nat.zero_le _, Nat.zero_le _⟩) hI (st1 := [.null]) rfl (fun H locs hI => ?_)
    refine lv_astore_nN (i := 2) (lv' := [(2, .null), (0, .ref (adr 0)), (1, .int p0)]) hx hb d_Bo_state_8 rfl hl (by decide) rfl (fun ls hl => ?_)
    refine lv_aload_nN hx hb d_Bo_state_9 rfl (lv_at hl 0 rfl) ?_
    refine lv_ifnonnullN hx hb d_Bo_state_10 ?_
    refine lv_iconst (v := (-1)) hx hb d_Bo_state_13 (by decide) ?_
    refine lv_goto (tgt := 21) hx hb d_Bo_state_14 (by decide) ?_
    cases hf
    exact W.iret hx hb hr (gx_F hI) hI.2.2.2 d_Bo_state_21
  · replace hf := gx_mts hf
    obtain ⟨hg_5, hf⟩ := gx_gd hf
    refine gx_go (va_runV (As := [.int p0]) (rest := []) G.1 (ct_Ro_find l D dA adr A hA N 24 p0 σ (some o_4) σ_1 hc_2) (cwV 1 ht gi_Bo_86 rfl rfl rfl (by decide +kernel) ⟨Nat.le_of_ble_eq_true rfl, Nat.le_of_ble_eq_true rfl⟩) (gx_preV G hI cl_Ro (gx_ci_r (by decide))) rfl rfl hl.1 rfl (lv_room (Nat.le_of_ble_eq_true rfl)) d_Bo_state_5 ⟨Nat.zero_le _, Nat.zero_le _⟩) hI (st1 := [.ref (adr o_4)]) rfl (fun H locs hI => ?_)
    refine lv_astore_n (i := 2) (lv' := [(2, .ref (adr o_4)), (0, .ref (adr 0)), (1, .int p0)]) hx hb d_Bo_state_8 rfl hl (by decide) rfl (fun ls hl => ?_)
    refine lv_aload_n hx hb d_Bo_state_9 rfl (lv_at hl 0 rfl) ?_
    refine lv_ifnonnull (tgt := 17) hx hb d_Bo_state_10 (by decide) ?_
    refine lv_aload_n hx hb d_Bo_state_17 rfl (lv_at hl 0 rfl) ?_
    refine gx_getI G hI cl_Jb (gx_ci_j hg_5) 10 (by decide) (gx_rf_j hg_5 10) fl_Bo_97 d_Bo_state_18 ?_
    cases hf
    exact W.iret hx hb hr (gx_F hI) hI.2.2.2 d_Bo_state_21
def fn_Bo_failures (N : Nat) (p0 : Int32) (σ : gx_M) : Option (Int32 × gx_M) := gx_bd (fn_Ro_find N 24 p0 σ) (fun x_3 σ_1 => gx_mt x_3 (some ((-1 : Int32), σ_1)) (fun o_4 => if 42 ≤ o_4 ∧ o_4 < 722 then (some (σ_1 o_4 6, σ_1)) else none))
set_option maxHeartbeats 4000000 in
set_option maxRecDepth 100000 in
theorem ct_Bo_failures (l : Launch) (D : va_G) (dA : Nat → ClassId) (adr : Nat → Nat) (A : Nat → Prop) (hA : gx_A A adr) (N : Nat) (p0 : Int32) (σ : gx_M) (r : Int32) (σ' : gx_M) (hf : fn_Bo_failures N p0 σ = some (r, σ')) : Met l y_Bo_failures w_Bo_failures rm_Bo_failures (gx_Pc D dA adr σ [.ref (adr 0), .int p0]) (gx_Q D dA adr A (some (.int r)) σ') 0 0 A := by
  refine Met.ofW (cc := b_Bo_failures) (maxL := 3) (ret := some .int) (by decide) rfl ?_
  intro p e s m args below meth c s₁ B hml hv
  obtain ⟨rfl, hP, hK⟩ := hv
  have hx := B.exec
  have hb := B.bytes
  have hr := B.returns
  have hlocks := B.notSynchronized
  have ht : ∀ w ∈ gx_tb, w.before _ s = true := fun w h => atoms_spec (ws := w_Bo_failures) B.pre w (List.mem_cons_of_mem _ h)
  have hown : s.vm.findClass R_Bo = some m.cls := findClass_of_methodNamed B.named
  have G : gx_G p m c b_Bo_failures 3 s _ gx_tb R_Bo D dA := ⟨⟨hx, hb, hml, hown, ht⟩, hK⟩
  have hI : gx_I D dA adr A s.heap σ s.heap [] := ⟨hP, va_S.rf⟩
  have hl := lv_entry ([.ref (adr 0), .int p0]) (n := 3) (Nat.le_of_ble_eq_true rfl)
  rw [lg_entry_eq]
  generalize (lg_sl ([.ref (adr 0), .int p0]) ++ List.replicate (3 - (lg_sl ([.ref (adr 0), .int p0])).length) Slot.unset).toArray = ls at hl ⊢
  have hl : lv_has ls 3 [(0, .ref (adr 0)), (1, .int p0)] := hl
  rw [fn_Bo_failures] at hf
  refine lv_aload_n hx hb d_Bo_failures_0 rfl (lv_at hl 0 rfl) ?_
  refine gx_getR (o' := 24) G hI cl_Bo (by decide) 2 (by decide) (by decide) fl_Bo_23 d_Bo_failures_1 ?_
  refine lv_iload_n hx hb d_Bo_failures_4 rfl (lv_at hl 1 rfl) ?_
  obtain ⟨x_3, σ_1, hc_2, hf⟩ := gx_bde hf
  rcases x_3 with _ | o_4
  · replace hf := gx_mtn hf
    refine gx_go (va_runV (As := [.int p0]) (rest := []) G.1 (ct_Ro_find l D dA adr A hA N 24 p0 σ none σ_1 hc_2) (cwV 1 ht gi_Bo_86 rfl rfl rfl (by decide +kernel) ⟨Nat.le_of_ble_eq_true rfl, Nat.le_of_ble_eq_true rfl⟩) (gx_preV G hI cl_Ro (gx_ci_r (by decide))) rfl rfl hl.1 rfl (lv_room (Nat.le_of_ble_eq_true rfl)) d_Bo_failures_5 ⟨Nat.zero_le _, Nat.zero_le _⟩) hI (st1 := [.null]) rfl (fun H locs hI => ?_)
    refine lv_astore_nN (i := 2) (lv' := [(2, .null), (0, .ref (adr 0)), (1, .int p0)]) hx hb d_Bo_failures_8 rfl hl (by decide) rfl (fun ls hl => ?_)
    refine lv_aload_nN hx hb d_Bo_failures_9 rfl (lv_at hl 0 rfl) ?_
    refine lv_ifnonnullN hx hb d_Bo_failures_10 ?_
    refine lv_iconst (v := (-1)) hx hb d_Bo_failures_13 (by decide) ?_
    refine lv_goto (tgt := 21) hx hb d_Bo_failures_14 (by decide) ?_
    cases hf
    exact W.iret hx hb hr (gx_F hI) hI.2.2.2 d_Bo_failures_21
  · replace hf := gx_mts hf
    obtain ⟨hg_5, hf⟩ := gx_gd hf
    refine gx_go (va_runV (As := [.int p0]) (rest := []) G.1 (ct_Ro_find l D dA adr A hA N 24 p0 σ (some o_4) σ_1 hc_2) (cwV 1 ht gi_Bo_86 rfl rfl rfl (by decide +kernel) ⟨Nat.le_of_ble_eq_true rfl, Nat.le_of_ble_eq_true rfl⟩) (gx_preV G hI cl_Ro (gx_ci_r (by decide))) rfl rfl hl.1 rfl (lv_room (Nat.le_of_ble_eq_true rfl)) d_Bo_failures_5 ⟨Nat.zero_le _, Nat.zero_le _⟩) hI (st1 := [.ref (adr o_4)]) rfl (fun H locs hI => ?_)
    refine lv_astore_n (i := 2) (lv' := [(2, .ref (adr o_4)), (0, .ref (adr 0)), (1, .int p0)]) hx hb d_Bo_failures_8 rfl hl (by decide) rfl (fun ls hl => ?_)
    refine lv_aload_n hx hb d_Bo_failures_9 rfl (lv_at hl 0 rfl) ?_
    refine lv_ifnonnull (tgt := 17) hx hb d_Bo_failures_10 (by decide) ?_
    refine lv_aload_n hx hb d_Bo_failures_17 rfl (lv_at hl 0 rfl) ?_
    refine gx_getI G hI cl_Jb (gx_ci_j hg_5) 6 (by decide) (gx_rf_j hg_5 6) fl_Bo_143 d_Bo_failures_18 ?_
    cases hf
    exact W.iret hx hb hr (gx_F hI) hI.2.2.2 d_Bo_failures_21
def fn_Bo_due (N : Nat) (p0 : Int32) (σ : gx_M) : Option (Int32 × gx_M) := gx_bd (fn_Ro_find N 24 p0 σ) (fun x_3 σ_1 => gx_mt x_3 (some ((-1 : Int32), σ_1)) (fun o_4 => if 42 ≤ o_4 ∧ o_4 < 722 then (if (σ_1 o_4 10) = ((6 : Int32)) then (some (σ_1 o_4 8, σ_1)) else (gx_bd (fn_Jb_isTimed N o_4 σ_1) (fun r_9 σ_7 => if r_9 = 0 then (some ((-4 : Int32), σ_7)) else (some (σ_7 o_4 11, σ_7))))) else none))
set_option maxHeartbeats 4000000 in
set_option maxRecDepth 100000 in
theorem ct_Bo_due (l : Launch) (D : va_G) (dA : Nat → ClassId) (adr : Nat → Nat) (A : Nat → Prop) (hA : gx_A A adr) (N : Nat) (p0 : Int32) (σ : gx_M) (r : Int32) (σ' : gx_M) (hf : fn_Bo_due N p0 σ = some (r, σ')) : Met l y_Bo_due w_Bo_due rm_Bo_due (gx_Pc D dA adr σ [.ref (adr 0), .int p0]) (gx_Q D dA adr A (some (.int r)) σ') 0 0 A := by
  refine Met.ofW (cc := b_Bo_due) (maxL := 3) (ret := some .int) (by decide) rfl ?_
  intro p e s m args below meth c s₁ B hml hv
  obtain ⟨rfl, hP, hK⟩ := hv
  have hx := B.exec
  have hb := B.bytes
  have hr := B.returns
  have hlocks := B.notSynchronized
  have ht : ∀ w ∈ gx_tb, w.before _ s = true := fun w h => atoms_spec (ws := w_Bo_due) B.pre w (List.mem_cons_of_mem _ h)
  have hown : s.vm.findClass R_Bo = some m.cls := findClass_of_methodNamed B.named
  have G : gx_G p m c b_Bo_due 3 s _ gx_tb R_Bo D dA := ⟨⟨hx, hb, hml, hown, ht⟩, hK⟩
  have hI : gx_I D dA adr A s.heap σ s.heap [] := ⟨hP, va_S.rf⟩
  have hl := lv_entry ([.ref (adr 0), .int p0]) (n := 3) (Nat.le_of_ble_eq_true rfl)
  rw [lg_entry_eq]
  generalize (lg_sl ([.ref (adr 0), .int p0]) ++ List.replicate (3 - (lg_sl ([.ref (adr 0), .int p0])).length) Slot.unset).toArray = ls at hl ⊢
  have hl : lv_has ls 3 [(0, .ref (adr 0)), (1, .int p0)] := hl
  rw [fn_Bo_due] at hf
  refine lv_aload_n hx hb d_Bo_due_0 rfl (lv_at hl 0 rfl) ?_
  refine gx_getR (o' := 24) G hI cl_Bo (by decide) 2 (by decide) (by decide) fl_Bo_23 d_Bo_due_1 ?_
  refine lv_iload_n hx hb d_Bo_due_4 rfl (lv_at hl 1 rfl) ?_
  obtain ⟨x_3, σ_1, hc_2, hf⟩ := gx_bde hf
  rcases x_3 with _ | o_4
  · replace hf := gx_mtn hf
    refine gx_go (va_runV (As := [.int p0]) (rest := []) G.1 (ct_Ro_find l D dA adr A hA N 24 p0 σ none σ_1 hc_2) (cwV 1 ht gi_Bo_86 rfl rfl rfl (by decide +kernel) ⟨Nat.le_of_ble_eq_true rfl, Nat.le_of_ble_eq_true rfl⟩) (gx_preV G hI cl_Ro (gx_ci_r (by decide))) rfl rfl hl.1 rfl (lv_room (Nat.le_of_ble_eq_true rfl)) d_Bo_due_5 ⟨Nat.zero_le _, Nat.zero_le _⟩) hI (st1 := [.null]) rfl (fun H locs hI => ?_)
    refine lv_astore_nN (i := 2) (lv' := [(2, .null), (0, .ref (adr 0)), (1, .int p0)]) hx hb d_Bo_due_8 rfl hl (by decide) rfl (fun ls hl => ?_)
    refine lv_aload_nN hx hb d_Bo_due_9 rfl (lv_at hl 0 rfl) ?_
    refine lv_ifnonnullN hx hb d_Bo_due_10 ?_
    refine lv_iconst (v := (-1)) hx hb d_Bo_due_13 (by decide) ?_
    cases hf
    exact W.iret hx hb hr (gx_F hI) hI.2.2.2 d_Bo_due_14
  · replace hf := gx_mts hf
    obtain ⟨hg_5, hf⟩ := gx_gd hf
    refine gx_go (va_runV (As := [.int p0]) (rest := []) G.1 (ct_Ro_find l D dA adr A hA N 24 p0 σ (some o_4) σ_1 hc_2) (cwV 1 ht gi_Bo_86 rfl rfl rfl (by decide +kernel) ⟨Nat.le_of_ble_eq_true rfl, Nat.le_of_ble_eq_true rfl⟩) (gx_preV G hI cl_Ro (gx_ci_r (by decide))) rfl rfl hl.1 rfl (lv_room (Nat.le_of_ble_eq_true rfl)) d_Bo_due_5 ⟨Nat.zero_le _, Nat.zero_le _⟩) hI (st1 := [.ref (adr o_4)]) rfl (fun H locs hI => ?_)
    refine lv_astore_n (i := 2) (lv' := [(2, .ref (adr o_4)), (0, .ref (adr 0)), (1, .int p0)]) hx hb d_Bo_due_8 rfl hl (by decide) rfl (fun ls hl => ?_)
    refine lv_aload_n hx hb d_Bo_due_9 rfl (lv_at hl 0 rfl) ?_
    refine lv_ifnonnull (tgt := 15) hx hb d_Bo_due_10 (by decide) ?_
    refine lv_aload_n hx hb d_Bo_due_15 rfl (lv_at hl 0 rfl) ?_
    refine gx_getI G hI cl_Jb (gx_ci_j hg_5) 10 (by decide) (gx_rf_j hg_5 10) fl_Bo_97 d_Bo_due_16 ?_
    refine lv_bipush (v := 6) hx hb d_Bo_due_19 (by decide) ?_
    refine lv_icmp_ne (tgt := 29) hx hb d_Bo_due_21 (by decide) (fun c_6 => ?_) (fun c_6 => ?_)
    · replace hf := (if_neg c_6).symm.trans hf
      refine lv_aload_n hx hb d_Bo_due_29 rfl (lv_at hl 0 rfl) ?_
      obtain ⟨r_9, σ_7, hc_8, hf⟩ := gx_bde hf
      refine gx_go (va_runV (As := []) (rest := []) G.1 (ct_Jb_isTimed l D dA adr A hA N o_4 σ_1 r_9 σ_7 hc_8) (cwV 0 ht gi_Bo_163 rfl rfl rfl (by decide +kernel) ⟨Nat.le_of_ble_eq_true rfl, Nat.le_of_ble_eq_true rfl⟩) (gx_preV G hI cl_Jb (gx_ci_j hg_5)) rfl rfl hl.1 rfl (lv_room (Nat.le_of_ble_eq_true rfl)) d_Bo_due_30 ⟨Nat.zero_le _, Nat.zero_le _⟩) hI (st1 := [.int r_9]) rfl (fun H locs hI => ?_)
      refine lv_if_eq (tgt := 43) hx hb d_Bo_due_33 (by decide) (fun c_10 => ?_) (fun c_10 => ?_)
      · replace hf := (if_pos c_10).symm.trans hf
        refine lv_bipush (v := (-4)) hx hb d_Bo_due_43 (by decide) ?_
        cases hf
        exact W.iret hx hb hr (gx_F hI) hI.2.2.2 d_Bo_due_45
      · replace hf := (if_neg c_10).symm.trans hf
        refine lv_aload_n hx hb d_Bo_due_36 rfl (lv_at hl 0 rfl) ?_
        refine gx_getI G hI cl_Jb (gx_ci_j hg_5) 11 (by decide) (gx_rf_j hg_5 11) fl_Bo_166 d_Bo_due_37 ?_
        refine lv_goto (tgt := 45) hx hb d_Bo_due_40 (by decide) ?_
        cases hf
        exact W.iret hx hb hr (gx_F hI) hI.2.2.2 d_Bo_due_45
    · replace hf := (if_pos c_6).symm.trans hf
      refine lv_aload_n hx hb d_Bo_due_24 rfl (lv_at hl 0 rfl) ?_
      refine gx_getI G hI cl_Jb (gx_ci_j hg_5) 8 (by decide) (gx_rf_j hg_5 8) fl_Bo_100 d_Bo_due_25 ?_
      cases hf
      exact W.iret hx hb hr (gx_F hI) hI.2.2.2 d_Bo_due_28
def fn_Bo_holding (N : Nat) (p0 : Int32) (σ : gx_M) : Option (Int32 × gx_M) := gx_bd (fn_Bo_isWorker N p0 σ) (fun r_3 σ_1 => if r_3 = 0 then (some ((-1 : Int32), σ_1)) else (gx_bd (fn_Ro_reservedBy N 24 p0 σ_1) (fun x_7 σ_5 => gx_mt x_7 (gx_bd (fn_Bo_numberOrNone N none σ_5) (fun r_12 σ_10 => some (r_12, σ_10))) (fun o_8 => if 42 ≤ o_8 ∧ o_8 < 722 then (gx_bd (fn_Bo_numberOrNone N (some o_8) σ_5) (fun r_15 σ_13 => some (r_15, σ_13))) else none))))
set_option maxHeartbeats 4000000 in
set_option maxRecDepth 100000 in
theorem ct_Bo_holding (l : Launch) (D : va_G) (dA : Nat → ClassId) (adr : Nat → Nat) (A : Nat → Prop) (hA : gx_A A adr) (N : Nat) (p0 : Int32) (σ : gx_M) (r : Int32) (σ' : gx_M) (hf : fn_Bo_holding N p0 σ = some (r, σ')) : Met l y_Bo_holding w_Bo_holding rm_Bo_holding (gx_Pc D dA adr σ [.ref (adr 0), .int p0]) (gx_Q D dA adr A (some (.int r)) σ') 0 0 A := by
  refine Met.ofW (cc := b_Bo_holding) (maxL := 2) (ret := some .int) (by decide) rfl ?_
  intro p e s m args below meth c s₁ B hml hv
  obtain ⟨rfl, hP, hK⟩ := hv
  have hx := B.exec
  have hb := B.bytes
  have hr := B.returns
  have hlocks := B.notSynchronized
  have ht : ∀ w ∈ gx_tb, w.before _ s = true := fun w h => atoms_spec (ws := w_Bo_holding) B.pre w (List.mem_cons_of_mem _ h)
  have hown : s.vm.findClass R_Bo = some m.cls := findClass_of_methodNamed B.named
  have G : gx_G p m c b_Bo_holding 2 s _ gx_tb R_Bo D dA := ⟨⟨hx, hb, hml, hown, ht⟩, hK⟩
  have hI : gx_I D dA adr A s.heap σ s.heap [] := ⟨hP, va_S.rf⟩
  have hl := lv_entry ([.ref (adr 0), .int p0]) (n := 2) (Nat.le_of_ble_eq_true rfl)
  rw [lg_entry_eq]
  generalize (lg_sl ([.ref (adr 0), .int p0]) ++ List.replicate (2 - (lg_sl ([.ref (adr 0), .int p0])).length) Slot.unset).toArray = ls at hl ⊢
  have hl : lv_has ls 2 [(0, .ref (adr 0)), (1, .int p0)] := hl
  rw [fn_Bo_holding] at hf
  refine lv_iload_n hx hb d_Bo_holding_0 rfl (lv_at hl 1 rfl) ?_
  obtain ⟨r_3, σ_1, hc_2, hf⟩ := gx_bde hf
  refine gx_go (va_runS (As := [.int p0]) (rest := []) G.1 (ct_Bo_isWorker l D dA adr A hA N p0 σ r_3 σ_1 hc_2) (cwS 1 ht gi_Bo_110 rfl rfl rfl (by decide +kernel) ⟨Nat.le_of_ble_eq_true rfl, Nat.le_of_ble_eq_true rfl⟩) (gx_pre G hI) rfl rfl hl.1 rfl (lv_room (Nat.le_of_ble_eq_true rfl)) d_Bo_holding_1 ⟨Nat.zero_le _, Nat.zero_le _⟩) hI (st1 := [.int r_3]) rfl (fun H locs hI => ?_)
  refine lv_if_ne (tgt := 9) hx hb d_Bo_holding_4 (by decide) (fun c_4 => ?_) (fun c_4 => ?_)
  · replace hf := (if_neg c_4).symm.trans hf
    refine lv_aload_n hx hb d_Bo_holding_9 rfl (lv_at hl 0 rfl) ?_
    refine gx_getR (o' := 24) G hI cl_Bo (by decide) 2 (by decide) (by decide) fl_Bo_23 d_Bo_holding_10 ?_
    refine lv_iload_n hx hb d_Bo_holding_13 rfl (lv_at hl 1 rfl) ?_
    obtain ⟨x_7, σ_5, hc_6, hf⟩ := gx_bde hf
    rcases x_7 with _ | o_8
    · replace hf := gx_mtn hf
      refine gx_go (va_runV (As := [.int p0]) (rest := []) G.1 (ct_Ro_reservedBy l D dA adr A hA N 24 p0 σ_1 none σ_5 hc_6) (cwV 1 ht gi_Bo_113 rfl rfl rfl (by decide +kernel) ⟨Nat.le_of_ble_eq_true rfl, Nat.le_of_ble_eq_true rfl⟩) (gx_preV G hI cl_Ro (gx_ci_r (by decide))) rfl rfl hl.1 rfl (lv_room (Nat.le_of_ble_eq_true rfl)) d_Bo_holding_14 ⟨Nat.zero_le _, Nat.zero_le _⟩) hI (st1 := [.null]) rfl (fun H locs hI => ?_)
      obtain ⟨r_12, σ_10, hc_11, hf⟩ := gx_bde hf
      refine gx_go (va_runS (As := [.null]) (rest := []) G.1 (ct_Bo_numberOrNone l D dA adr A hA N none σ_5 r_12 σ_10 hc_11) (cwS 1 ht gi_Bo_169 rfl rfl rfl (by decide +kernel) ⟨Nat.le_of_ble_eq_true rfl, Nat.le_of_ble_eq_true rfl⟩) (gx_pre G hI) rfl rfl hl.1 rfl (lv_room (Nat.le_of_ble_eq_true rfl)) d_Bo_holding_17 ⟨Nat.zero_le _, Nat.zero_le _⟩) hI (st1 := [.int r_12]) rfl (fun H locs hI => ?_)
      cases hf
      exact W.iret hx hb hr (gx_F hI) hI.2.2.2 d_Bo_holding_20
    · replace hf := gx_mts hf
      obtain ⟨hg_9, hf⟩ := gx_gd hf
      refine gx_go (va_runV (As := [.int p0]) (rest := []) G.1 (ct_Ro_reservedBy l D dA adr A hA N 24 p0 σ_1 (some o_8) σ_5 hc_6) (cwV 1 ht gi_Bo_113 rfl rfl rfl (by decide +kernel) ⟨Nat.le_of_ble_eq_true rfl, Nat.le_of_ble_eq_true rfl⟩) (gx_preV G hI cl_Ro (gx_ci_r (by decide))) rfl rfl hl.1 rfl (lv_room (Nat.le_of_ble_eq_true rfl)) d_Bo_holding_14 ⟨Nat.zero_le _, Nat.zero_le _⟩) hI (st1 := [.ref (adr o_8)]) rfl (fun H locs hI => ?_)
      obtain ⟨r_15, σ_13, hc_14, hf⟩ := gx_bde hf
      refine gx_go (va_runS (As := [.ref (adr o_8)]) (rest := []) G.1 (ct_Bo_numberOrNone l D dA adr A hA N (some o_8) σ_5 r_15 σ_13 hc_14) (cwS 1 ht gi_Bo_169 rfl rfl rfl (by decide +kernel) ⟨Nat.le_of_ble_eq_true rfl, Nat.le_of_ble_eq_true rfl⟩) (gx_pre G hI) rfl rfl hl.1 rfl (lv_room (Nat.le_of_ble_eq_true rfl)) d_Bo_holding_17 ⟨Nat.zero_le _, Nat.zero_le _⟩) hI (st1 := [.int r_15]) rfl (fun H locs hI => ?_)
      cases hf
      exact W.iret hx hb hr (gx_F hI) hI.2.2.2 d_Bo_holding_20
  · replace hf := (if_pos c_4).symm.trans hf
    refine lv_iconst (v := (-1)) hx hb d_Bo_holding_7 (by decide) ?_
    cases hf
    exact W.iret hx hb hr (gx_F hI) hI.2.2.2 d_Bo_holding_8
def fn_Bo_line (N : Nat) (p0 : Int32) (p1 : Int32) (σ : gx_M) : Option (Int32 × gx_M) := gx_bd (fn_Bo_isQueue N p0 σ) (fun r_3 σ_1 => if r_3 = 0 then (some ((-1 : Int32), σ_1)) else (gx_bd (fn_Bo_within N p1 ((0 : Int32)) ((39 : Int32)) σ_1) (fun r_7 σ_5 => if r_7 = 0 then (some ((-4 : Int32), σ_5)) else (gx_bd (fn_Ro_inLine N 24 p0 p1 σ_5) (fun x_11 σ_9 => gx_mt x_11 (gx_bd (fn_Bo_numberOrNone N none σ_9) (fun r_16 σ_14 => some (r_16, σ_14))) (fun o_12 => if 42 ≤ o_12 ∧ o_12 < 722 then (gx_bd (fn_Bo_numberOrNone N (some o_12) σ_9) (fun r_19 σ_17 => some (r_19, σ_17))) else none))))))
set_option maxHeartbeats 4000000 in
set_option maxRecDepth 100000 in
theorem ct_Bo_line (l : Launch) (D : va_G) (dA : Nat → ClassId) (adr : Nat → Nat) (A : Nat → Prop) (hA : gx_A A adr) (N : Nat) (p0 : Int32) (p1 : Int32) (σ : gx_M) (r : Int32) (σ' : gx_M) (hf : fn_Bo_line N p0 p1 σ = some (r, σ')) : Met l y_Bo_line w_Bo_line rm_Bo_line (gx_Pc D dA adr σ [.ref (adr 0), .int p0, .int p1]) (gx_Q D dA adr A (some (.int r)) σ') 0 0 A := by
  refine Met.ofW (cc := b_Bo_line) (maxL := 3) (ret := some .int) (by decide) rfl ?_
  intro p e s m args below meth c s₁ B hml hv
  obtain ⟨rfl, hP, hK⟩ := hv
  have hx := B.exec
  have hb := B.bytes
  have hr := B.returns
  have hlocks := B.notSynchronized
  have ht : ∀ w ∈ gx_tb, w.before _ s = true := fun w h => atoms_spec (ws := w_Bo_line) B.pre w (List.mem_cons_of_mem _ h)
  have hown : s.vm.findClass R_Bo = some m.cls := findClass_of_methodNamed B.named
  have G : gx_G p m c b_Bo_line 3 s _ gx_tb R_Bo D dA := ⟨⟨hx, hb, hml, hown, ht⟩, hK⟩
  have hI : gx_I D dA adr A s.heap σ s.heap [] := ⟨hP, va_S.rf⟩
  have hl := lv_entry ([.ref (adr 0), .int p0, .int p1]) (n := 3) (Nat.le_of_ble_eq_true rfl)
  rw [lg_entry_eq]
  generalize (lg_sl ([.ref (adr 0), .int p0, .int p1]) ++ List.replicate (3 - (lg_sl ([.ref (adr 0), .int p0, .int p1])).length) Slot.unset).toArray = ls at hl ⊢
  have hl : lv_has ls 3 [(0, .ref (adr 0)), (1, .int p0), (2, .int p1)] := hl
  rw [fn_Bo_line] at hf
  refine lv_iload_n hx hb d_Bo_line_0 rfl (lv_at hl 1 rfl) ?_
  obtain ⟨r_3, σ_1, hc_2, hf⟩ := gx_bde hf
  refine gx_go (va_runS (As := [.int p0]) (rest := []) G.1 (ct_Bo_isQueue l D dA adr A hA N p0 σ r_3 σ_1 hc_2) (cwS 1 ht gi_Bo_41 rfl rfl rfl (by decide +kernel) ⟨Nat.le_of_ble_eq_true rfl, Nat.le_of_ble_eq_true rfl⟩) (gx_pre G hI) rfl rfl hl.1 rfl (lv_room (Nat.le_of_ble_eq_true rfl)) d_Bo_line_1 ⟨Nat.zero_le _, Nat.zero_le _⟩) hI (st1 := [.int r_3]) rfl (fun H locs hI => ?_)
  refine lv_if_ne (tgt := 9) hx hb d_Bo_line_4 (by decide) (fun c_4 => ?_) (fun c_4 => ?_)
  · replace hf := (if_neg c_4).symm.trans hf
    refine lv_iload_n hx hb d_Bo_line_9 rfl (lv_at hl 2 rfl) ?_
    refine lv_iconst (v := 0) hx hb d_Bo_line_10 (by decide) ?_
    refine lv_bipush (v := 39) hx hb d_Bo_line_11 (by decide) ?_
    obtain ⟨r_7, σ_5, hc_6, hf⟩ := gx_bde hf
    refine gx_go (va_runS (As := [.int p1, .int ((0 : Int32)), .int ((39 : Int32))]) (rest := []) G.1 (ct_Bo_within l D dA adr A hA N p1 ((0 : Int32)) ((39 : Int32)) σ_1 r_7 σ_5 hc_6) (cwS 3 ht gi_Bo_45 rfl rfl rfl (by decide +kernel) ⟨Nat.le_of_ble_eq_true rfl, Nat.le_of_ble_eq_true rfl⟩) (gx_pre G hI) rfl rfl hl.1 rfl (lv_room (Nat.le_of_ble_eq_true rfl)) d_Bo_line_13 ⟨Nat.zero_le _, Nat.zero_le _⟩) hI (st1 := [.int r_7]) rfl (fun H locs hI => ?_)
    refine lv_if_eq (tgt := 34) hx hb d_Bo_line_16 (by decide) (fun c_8 => ?_) (fun c_8 => ?_)
    · replace hf := (if_pos c_8).symm.trans hf
      refine lv_bipush (v := (-4)) hx hb d_Bo_line_34 (by decide) ?_
      cases hf
      exact W.iret hx hb hr (gx_F hI) hI.2.2.2 d_Bo_line_36
    · replace hf := (if_neg c_8).symm.trans hf
      refine lv_aload_n hx hb d_Bo_line_19 rfl (lv_at hl 0 rfl) ?_
      refine gx_getR (o' := 24) G hI cl_Bo (by decide) 2 (by decide) (by decide) fl_Bo_23 d_Bo_line_20 ?_
      refine lv_iload_n hx hb d_Bo_line_23 rfl (lv_at hl 1 rfl) ?_
      refine lv_iload_n hx hb d_Bo_line_24 rfl (lv_at hl 2 rfl) ?_
      obtain ⟨x_11, σ_9, hc_10, hf⟩ := gx_bde hf
      rcases x_11 with _ | o_12
      · replace hf := gx_mtn hf
        refine gx_go (va_runV (As := [.int p0, .int p1]) (rest := []) G.1 (ct_Ro_inLine l D dA adr A hA N 24 p0 p1 σ_5 none σ_9 hc_10) (cwV 2 ht gi_Bo_173 rfl rfl rfl (by decide +kernel) ⟨Nat.le_of_ble_eq_true rfl, Nat.le_of_ble_eq_true rfl⟩) (gx_preV G hI cl_Ro (gx_ci_r (by decide))) rfl rfl hl.1 rfl (lv_room (Nat.le_of_ble_eq_true rfl)) d_Bo_line_25 ⟨Nat.zero_le _, Nat.zero_le _⟩) hI (st1 := [.null]) rfl (fun H locs hI => ?_)
        obtain ⟨r_16, σ_14, hc_15, hf⟩ := gx_bde hf
        refine gx_go (va_runS (As := [.null]) (rest := []) G.1 (ct_Bo_numberOrNone l D dA adr A hA N none σ_9 r_16 σ_14 hc_15) (cwS 1 ht gi_Bo_169 rfl rfl rfl (by decide +kernel) ⟨Nat.le_of_ble_eq_true rfl, Nat.le_of_ble_eq_true rfl⟩) (gx_pre G hI) rfl rfl hl.1 rfl (lv_room (Nat.le_of_ble_eq_true rfl)) d_Bo_line_28 ⟨Nat.zero_le _, Nat.zero_le _⟩) hI (st1 := [.int r_16]) rfl (fun H locs hI => ?_)
        refine lv_goto (tgt := 36) hx hb d_Bo_line_31 (by decide) ?_
        cases hf
        exact W.iret hx hb hr (gx_F hI) hI.2.2.2 d_Bo_line_36
      · replace hf := gx_mts hf
        obtain ⟨hg_13, hf⟩ := gx_gd hf
        refine gx_go (va_runV (As := [.int p0, .int p1]) (rest := []) G.1 (ct_Ro_inLine l D dA adr A hA N 24 p0 p1 σ_5 (some o_12) σ_9 hc_10) (cwV 2 ht gi_Bo_173 rfl rfl rfl (by decide +kernel) ⟨Nat.le_of_ble_eq_true rfl, Nat.le_of_ble_eq_true rfl⟩) (gx_preV G hI cl_Ro (gx_ci_r (by decide))) rfl rfl hl.1 rfl (lv_room (Nat.le_of_ble_eq_true rfl)) d_Bo_line_25 ⟨Nat.zero_le _, Nat.zero_le _⟩) hI (st1 := [.ref (adr o_12)]) rfl (fun H locs hI => ?_)
        obtain ⟨r_19, σ_17, hc_18, hf⟩ := gx_bde hf
        refine gx_go (va_runS (As := [.ref (adr o_12)]) (rest := []) G.1 (ct_Bo_numberOrNone l D dA adr A hA N (some o_12) σ_9 r_19 σ_17 hc_18) (cwS 1 ht gi_Bo_169 rfl rfl rfl (by decide +kernel) ⟨Nat.le_of_ble_eq_true rfl, Nat.le_of_ble_eq_true rfl⟩) (gx_pre G hI) rfl rfl hl.1 rfl (lv_room (Nat.le_of_ble_eq_true rfl)) d_Bo_line_28 ⟨Nat.zero_le _, Nat.zero_le _⟩) hI (st1 := [.int r_19]) rfl (fun H locs hI => ?_)
        refine lv_goto (tgt := 36) hx hb d_Bo_line_31 (by decide) ?_
        cases hf
        exact W.iret hx hb hr (gx_F hI) hI.2.2.2 d_Bo_line_36
  · replace hf := (if_pos c_4).symm.trans hf
    refine lv_iconst (v := (-1)) hx hb d_Bo_line_7 (by decide) ?_
    cases hf
    exact W.iret hx hb hr (gx_F hI) hI.2.2.2 d_Bo_line_8
def fn_Bo_count (N : Nat) (p0 : Int32) (σ : gx_M) : Option (Int32 × gx_M) := gx_bd (fn_Bo_within N p0 ((0 : Int32)) ((7 : Int32)) σ) (fun r_3 σ_1 => if r_3 = 0 then (gx_bd (fn_Bo_within N p0 ((11 : Int32)) ((14 : Int32)) σ_1) (fun r_7 σ_5 => if r_7 = 0 then (if p0 = 8 then (some (σ_5 24 1, σ_5)) else (if p0 = 9 then (some (σ_5 6 1, σ_5)) else (if p0 = 10 then (some (σ_5 0 4, σ_5)) else (some ((-1 : Int32), σ_5))))) else (if 0 ≤ (p0 - ((11 : Int32))) ∧ (p0 - ((11 : Int32))) < 4 then (some (σ_5 (gx_el 1 (p0 - ((11 : Int32))).toNatClampNeg) 3, σ_5)) else none))) else (gx_bd (fn_Ro_countIn N 24 p0 σ_1) (fun r_12 σ_10 => some (r_12, σ_10))))
set_option maxHeartbeats 4000000 in
set_option maxRecDepth 100000 in
theorem ct_Bo_count (l : Launch) (D : va_G) (dA : Nat → ClassId) (adr : Nat → Nat) (A : Nat → Prop) (hA : gx_A A adr) (N : Nat) (p0 : Int32) (σ : gx_M) (r : Int32) (σ' : gx_M) (hf : fn_Bo_count N p0 σ = some (r, σ')) : Met l y_Bo_count w_Bo_count rm_Bo_count (gx_Pc D dA adr σ [.ref (adr 0), .int p0]) (gx_Q D dA adr A (some (.int r)) σ') 0 0 A := by
  refine Met.ofW (cc := b_Bo_count) (maxL := 2) (ret := some .int) (by decide) rfl ?_
  intro p e s m args below meth c s₁ B hml hv
  obtain ⟨rfl, hP, hK⟩ := hv
  have hx := B.exec
  have hb := B.bytes
  have hr := B.returns
  have hlocks := B.notSynchronized
  have ht : ∀ w ∈ gx_tb, w.before _ s = true := fun w h => atoms_spec (ws := w_Bo_count) B.pre w (List.mem_cons_of_mem _ h)
  have hown : s.vm.findClass R_Bo = some m.cls := findClass_of_methodNamed B.named
  have G : gx_G p m c b_Bo_count 2 s _ gx_tb R_Bo D dA := ⟨⟨hx, hb, hml, hown, ht⟩, hK⟩
  have hI : gx_I D dA adr A s.heap σ s.heap [] := ⟨hP, va_S.rf⟩
  have hl := lv_entry ([.ref (adr 0), .int p0]) (n := 2) (Nat.le_of_ble_eq_true rfl)
  rw [lg_entry_eq]
  generalize (lg_sl ([.ref (adr 0), .int p0]) ++ List.replicate (2 - (lg_sl ([.ref (adr 0), .int p0])).length) Slot.unset).toArray = ls at hl ⊢
  have hl : lv_has ls 2 [(0, .ref (adr 0)), (1, .int p0)] := hl
  rw [fn_Bo_count] at hf
  refine lv_iload_n hx hb d_Bo_count_0 rfl (lv_at hl 1 rfl) ?_
  refine lv_iconst (v := 0) hx hb d_Bo_count_1 (by decide) ?_
  refine lv_bipush (v := 7) hx hb d_Bo_count_2 (by decide) ?_
  obtain ⟨r_3, σ_1, hc_2, hf⟩ := gx_bde hf
  refine gx_go (va_runS (As := [.int p0, .int ((0 : Int32)), .int ((7 : Int32))]) (rest := []) G.1 (ct_Bo_within l D dA adr A hA N p0 ((0 : Int32)) ((7 : Int32)) σ r_3 σ_1 hc_2) (cwS 3 ht gi_Bo_45 rfl rfl rfl (by decide +kernel) ⟨Nat.le_of_ble_eq_true rfl, Nat.le_of_ble_eq_true rfl⟩) (gx_pre G hI) rfl rfl hl.1 rfl (lv_room (Nat.le_of_ble_eq_true rfl)) d_Bo_count_4 ⟨Nat.zero_le _, Nat.zero_le _⟩) hI (st1 := [.int r_3]) rfl (fun H locs hI => ?_)
  refine lv_if_eq (tgt := 19) hx hb d_Bo_count_7 (by decide) (fun c_4 => ?_) (fun c_4 => ?_)
  · replace hf := (if_pos c_4).symm.trans hf
    refine lv_iload_n hx hb d_Bo_count_19 rfl (lv_at hl 1 rfl) ?_
    refine lv_bipush (v := 11) hx hb d_Bo_count_20 (by decide) ?_
    refine lv_bipush (v := 14) hx hb d_Bo_count_22 (by decide) ?_
    obtain ⟨r_7, σ_5, hc_6, hf⟩ := gx_bde hf
    refine gx_go (va_runS (As := [.int p0, .int ((11 : Int32)), .int ((14 : Int32))]) (rest := []) G.1 (ct_Bo_within l D dA adr A hA N p0 ((11 : Int32)) ((14 : Int32)) σ_1 r_7 σ_5 hc_6) (cwS 3 ht gi_Bo_45 rfl rfl rfl (by decide +kernel) ⟨Nat.le_of_ble_eq_true rfl, Nat.le_of_ble_eq_true rfl⟩) (gx_pre G hI) rfl rfl hl.1 rfl (lv_room (Nat.le_of_ble_eq_true rfl)) d_Bo_count_24 ⟨Nat.zero_le _, Nat.zero_le _⟩) hI (st1 := [.int r_7]) rfl (fun H locs hI => ?_)
    refine lv_if_eq (tgt := 43) hx hb d_Bo_count_27 (by decide) (fun c_8 => ?_) (fun c_8 => ?_)
    · replace hf := (if_pos c_8).symm.trans hf
      refine lv_iload_n hx hb d_Bo_count_43 rfl (lv_at hl 1 rfl) ?_
      by_cases n8 : p0 = 8
      · replace hf := (if_pos n8).symm.trans hf
        refine lv_tableIn (tgt := 72) hx hb d_Bo_count_44 (by rw [n8]; decide) (by rw [n8]; decide) (by rw [n8]; rfl) (by decide) ?_
        refine lv_aload_n hx hb d_Bo_count_72 rfl (lv_at hl 0 rfl) ?_
        refine gx_getR (o' := 24) G hI cl_Bo (by decide) 2 (by decide) (by decide) fl_Bo_23 d_Bo_count_73 ?_
        refine gx_getI G hI cl_Ro (gx_ci_r (by decide)) 1 (by decide) (gx_rf_r (by decide) (by decide)) fl_Bo_182 d_Bo_count_76 ?_
        cases hf
        exact W.iret hx hb hr (gx_F hI) hI.2.2.2 d_Bo_count_79
      · replace hf := (if_neg n8).symm.trans hf
        by_cases n9 : p0 = 9
        · replace hf := (if_pos n9).symm.trans hf
          refine lv_tableIn (tgt := 80) hx hb d_Bo_count_44 (by rw [n9]; decide) (by rw [n9]; decide) (by rw [n9]; rfl) (by decide) ?_
          refine lv_aload_n hx hb d_Bo_count_80 rfl (lv_at hl 0 rfl) ?_
          refine gx_getR (o' := 6) G hI cl_Bo (by decide) 3 (by decide) (by decide) fl_Bo_30 d_Bo_count_81 ?_
          refine gx_getI G hI cl_Jn (by decide) 1 (by decide) (by decide) fl_Bo_185 d_Bo_count_84 ?_
          cases hf
          exact W.iret hx hb hr (gx_F hI) hI.2.2.2 d_Bo_count_87
        · replace hf := (if_neg n9).symm.trans hf
          by_cases n10 : p0 = 10
          · replace hf := (if_pos n10).symm.trans hf
            refine lv_tableIn (tgt := 88) hx hb d_Bo_count_44 (by rw [n10]; decide) (by rw [n10]; decide) (by rw [n10]; rfl) (by decide) ?_
            refine lv_aload_n hx hb d_Bo_count_88 rfl (lv_at hl 0 rfl) ?_
            refine gx_getI G hI cl_Bo (by decide) 4 (by decide) (by decide) fl_Bo_34 d_Bo_count_89 ?_
            cases hf
            exact W.iret hx hb hr (gx_F hI) hI.2.2.2 d_Bo_count_92
          · replace hf := (if_neg n10).symm.trans hf
            refine lv_tableOut (tgt := 93) hx hb d_Bo_count_44 (gx_sw8 n8 n9 n10) (by decide) ?_
            refine lv_iconst (v := (-1)) hx hb d_Bo_count_93 (by decide) ?_
            cases hf
            exact W.iret hx hb hr (gx_F hI) hI.2.2.2 d_Bo_count_94
    · replace hf := (if_neg c_8).symm.trans hf
      refine lv_aload_n hx hb d_Bo_count_30 rfl (lv_at hl 0 rfl) ?_
      refine gx_getR (o' := 1) G hI cl_Bo (by decide) 1 (by decide) (by decide) fl_Bo_15 d_Bo_count_31 ?_
      refine lv_iload_n hx hb d_Bo_count_34 rfl (lv_at hl 1 rfl) ?_
      refine lv_bipush (v := 11) hx hb d_Bo_count_35 (by decide) ?_
      refine lv_isub hx hb d_Bo_count_37 ?_
      obtain ⟨hi_9, hf⟩ := gx_gd hf
      refine gx_aldQ G hI hi_9 d_Bo_count_38 ?_
      refine gx_getI G hI cl_Qu (gx_ci_q (gx_el_q hi_9)) 3 (by decide) (gx_rf_q (gx_el_q hi_9) 3) fl_Bo_179 d_Bo_count_39 ?_
      cases hf
      exact W.iret hx hb hr (gx_F hI) hI.2.2.2 d_Bo_count_42
  · replace hf := (if_neg c_4).symm.trans hf
    refine lv_aload_n hx hb d_Bo_count_10 rfl (lv_at hl 0 rfl) ?_
    refine gx_getR (o' := 24) G hI cl_Bo (by decide) 2 (by decide) (by decide) fl_Bo_23 d_Bo_count_11 ?_
    refine lv_iload_n hx hb d_Bo_count_14 rfl (lv_at hl 1 rfl) ?_
    obtain ⟨r_12, σ_10, hc_11, hf⟩ := gx_bde hf
    refine gx_go (va_runV (As := [.int p0]) (rest := []) G.1 (ct_Ro_countIn l D dA adr A hA N 24 p0 σ_1 r_12 σ_10 hc_11) (cwV 1 ht gi_Bo_176 rfl rfl rfl (by decide +kernel) ⟨Nat.le_of_ble_eq_true rfl, Nat.le_of_ble_eq_true rfl⟩) (gx_preV G hI cl_Ro (gx_ci_r (by decide))) rfl rfl hl.1 rfl (lv_room (Nat.le_of_ble_eq_true rfl)) d_Bo_count_15 ⟨Nat.zero_le _, Nat.zero_le _⟩) hI (st1 := [.int r_12]) rfl (fun H locs hI => ?_)
    cases hf
    exact W.iret hx hb hr (gx_F hI) hI.2.2.2 d_Bo_count_18
