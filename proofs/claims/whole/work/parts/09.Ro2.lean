theorem d_Ro_bury_0 : decode b_Ro_bury 0 = .ok (.aload_n 0, 1) := by decide +kernel
theorem d_Ro_bury_1 : decode b_Ro_bury 1 = .ok (.invokevirtual 68, 3) := by decide +kernel
theorem d_Ro_bury_4 : decode b_Ro_bury 4 = .ok (.astore_n 2, 1) := by decide +kernel
theorem d_Ro_bury_5 : decode b_Ro_bury 5 = .ok (.aload_n 2, 1) := by decide +kernel
theorem d_Ro_bury_6 : decode b_Ro_bury 6 = .ok (.ifnull 19, 3) := by decide +kernel
theorem d_Ro_bury_9 : decode b_Ro_bury 9 = .ok (.aload_n 0, 1) := by decide +kernel
theorem d_Ro_bury_10 : decode b_Ro_bury 10 = .ok (.iconst 5, 1) := by decide +kernel
theorem d_Ro_bury_11 : decode b_Ro_bury 11 = .ok (.invokevirtual 72, 3) := by decide +kernel
theorem d_Ro_bury_14 : decode b_Ro_bury 14 = .ok (.bipush 8, 2) := by decide +kernel
theorem d_Ro_bury_16 : decode b_Ro_bury 16 = .ok (.if_icmp .lt 9, 3) := by decide +kernel
theorem d_Ro_bury_19 : decode b_Ro_bury 19 = .ok (.aload_n 2, 1) := by decide +kernel
theorem d_Ro_bury_20 : decode b_Ro_bury 20 = .ok (.bipush 7, 2) := by decide +kernel
theorem d_Ro_bury_22 : decode b_Ro_bury 22 = .ok (.putfield 35, 3) := by decide +kernel
theorem d_Ro_bury_25 : decode b_Ro_bury 25 = .ok (.aload_n 0, 1) := by decide +kernel
theorem d_Ro_bury_26 : decode b_Ro_bury 26 = .ok (.aload_n 1, 1) := by decide +kernel
theorem d_Ro_bury_27 : decode b_Ro_bury 27 = .ok (.iconst 5, 1) := by decide +kernel
theorem d_Ro_bury_28 : decode b_Ro_bury 28 = .ok (.invokevirtual 48, 3) := by decide +kernel
theorem d_Ro_bury_31 : decode b_Ro_bury 31 = .ok (.return_, 1) := by decide +kernel
theorem d_Ro_failReserved_0 : decode b_Ro_failReserved 0 = .ok (.aload_n 1, 1) := by decide +kernel
theorem d_Ro_failReserved_1 : decode b_Ro_failReserved 1 = .ok (.dup, 1) := by decide +kernel
theorem d_Ro_failReserved_2 : decode b_Ro_failReserved 2 = .ok (.getfield 52, 3) := by decide +kernel
theorem d_Ro_failReserved_5 : decode b_Ro_failReserved 5 = .ok (.iconst 1, 1) := by decide +kernel
theorem d_Ro_failReserved_6 : decode b_Ro_failReserved 6 = .ok (.iadd, 1) := by decide +kernel
theorem d_Ro_failReserved_7 : decode b_Ro_failReserved 7 = .ok (.putfield 52, 3) := by decide +kernel
theorem d_Ro_failReserved_10 : decode b_Ro_failReserved 10 = .ok (.aload_n 1, 1) := by decide +kernel
theorem d_Ro_failReserved_11 : decode b_Ro_failReserved 11 = .ok (.getfield 52, 3) := by decide +kernel
theorem d_Ro_failReserved_14 : decode b_Ro_failReserved 14 = .ok (.aload_n 1, 1) := by decide +kernel
theorem d_Ro_failReserved_15 : decode b_Ro_failReserved 15 = .ok (.getfield 55, 3) := by decide +kernel
theorem d_Ro_failReserved_18 : decode b_Ro_failReserved 18 = .ok (.if_icmp .le 11, 3) := by decide +kernel
theorem d_Ro_failReserved_21 : decode b_Ro_failReserved 21 = .ok (.aload_n 0, 1) := by decide +kernel
theorem d_Ro_failReserved_22 : decode b_Ro_failReserved 22 = .ok (.aload_n 1, 1) := by decide +kernel
theorem d_Ro_failReserved_23 : decode b_Ro_failReserved 23 = .ok (.invokevirtual 58, 3) := by decide +kernel
theorem d_Ro_failReserved_26 : decode b_Ro_failReserved 26 = .ok (.goto 14, 3) := by decide +kernel
theorem d_Ro_failReserved_29 : decode b_Ro_failReserved 29 = .ok (.aload_n 1, 1) := by decide +kernel
theorem d_Ro_failReserved_30 : decode b_Ro_failReserved 30 = .ok (.iconst 3, 1) := by decide +kernel
theorem d_Ro_failReserved_31 : decode b_Ro_failReserved 31 = .ok (.iload_n 2, 1) := by decide +kernel
theorem d_Ro_failReserved_32 : decode b_Ro_failReserved 32 = .ok (.aload_n 1, 1) := by decide +kernel
theorem d_Ro_failReserved_33 : decode b_Ro_failReserved 33 = .ok (.invokevirtual 61, 3) := by decide +kernel
theorem d_Ro_failReserved_36 : decode b_Ro_failReserved 36 = .ok (.iadd, 1) := by decide +kernel
theorem d_Ro_failReserved_37 : decode b_Ro_failReserved 37 = .ok (.invokevirtual 65, 3) := by decide +kernel
theorem d_Ro_failReserved_40 : decode b_Ro_failReserved 40 = .ok (.return_, 1) := by decide +kernel
theorem d_Ro_nextDue_0 : decode b_Ro_nextDue 0 = .ok (.aconst_null, 1) := by decide +kernel
theorem d_Ro_nextDue_1 : decode b_Ro_nextDue 1 = .ok (.astore_n 2, 1) := by decide +kernel
theorem d_Ro_nextDue_2 : decode b_Ro_nextDue 2 = .ok (.iconst 0, 1) := by decide +kernel
theorem d_Ro_nextDue_3 : decode b_Ro_nextDue 3 = .ok (.istore_n 3, 1) := by decide +kernel
theorem d_Ro_nextDue_4 : decode b_Ro_nextDue 4 = .ok (.iload_n 3, 1) := by decide +kernel
theorem d_Ro_nextDue_5 : decode b_Ro_nextDue 5 = .ok (.aload_n 0, 1) := by decide +kernel
theorem d_Ro_nextDue_6 : decode b_Ro_nextDue 6 = .ok (.getfield 20, 3) := by decide +kernel
theorem d_Ro_nextDue_9 : decode b_Ro_nextDue 9 = .ok (.if_icmp .ge 53, 3) := by decide +kernel
theorem d_Ro_nextDue_12 : decode b_Ro_nextDue 12 = .ok (.aload_n 0, 1) := by decide +kernel
theorem d_Ro_nextDue_13 : decode b_Ro_nextDue 13 = .ok (.getfield 11, 3) := by decide +kernel
theorem d_Ro_nextDue_16 : decode b_Ro_nextDue 16 = .ok (.iload_n 3, 1) := by decide +kernel
theorem d_Ro_nextDue_17 : decode b_Ro_nextDue 17 = .ok (.aaload, 1) := by decide +kernel
theorem d_Ro_nextDue_18 : decode b_Ro_nextDue 18 = .ok (.astore 4, 2) := by decide +kernel
theorem d_Ro_nextDue_20 : decode b_Ro_nextDue 20 = .ok (.aload 4, 2) := by decide +kernel
theorem d_Ro_nextDue_22 : decode b_Ro_nextDue 22 = .ok (.invokevirtual 83, 3) := by decide +kernel
theorem d_Ro_nextDue_25 : decode b_Ro_nextDue 25 = .ok (.ifCond .eq 31, 3) := by decide +kernel
theorem d_Ro_nextDue_28 : decode b_Ro_nextDue 28 = .ok (.aload 4, 2) := by decide +kernel
theorem d_Ro_nextDue_30 : decode b_Ro_nextDue 30 = .ok (.getfield 87, 3) := by decide +kernel
theorem d_Ro_nextDue_33 : decode b_Ro_nextDue 33 = .ok (.iload_n 1, 1) := by decide +kernel
theorem d_Ro_nextDue_34 : decode b_Ro_nextDue 34 = .ok (.if_icmp .gt 22, 3) := by decide +kernel
theorem d_Ro_nextDue_37 : decode b_Ro_nextDue 37 = .ok (.aload_n 2, 1) := by decide +kernel
theorem d_Ro_nextDue_38 : decode b_Ro_nextDue 38 = .ok (.ifnull 15, 3) := by decide +kernel
theorem d_Ro_nextDue_41 : decode b_Ro_nextDue 41 = .ok (.aload 4, 2) := by decide +kernel
theorem d_Ro_nextDue_43 : decode b_Ro_nextDue 43 = .ok (.getfield 87, 3) := by decide +kernel
theorem d_Ro_nextDue_46 : decode b_Ro_nextDue 46 = .ok (.aload_n 2, 1) := by decide +kernel
theorem d_Ro_nextDue_47 : decode b_Ro_nextDue 47 = .ok (.getfield 87, 3) := by decide +kernel
theorem d_Ro_nextDue_50 : decode b_Ro_nextDue 50 = .ok (.if_icmp .ge 6, 3) := by decide +kernel
theorem d_Ro_nextDue_53 : decode b_Ro_nextDue 53 = .ok (.aload 4, 2) := by decide +kernel
theorem d_Ro_nextDue_55 : decode b_Ro_nextDue 55 = .ok (.astore_n 2, 1) := by decide +kernel
theorem d_Ro_nextDue_56 : decode b_Ro_nextDue 56 = .ok (.iinc 3 1, 3) := by decide +kernel
theorem d_Ro_nextDue_59 : decode b_Ro_nextDue 59 = .ok (.goto (-55), 3) := by decide +kernel
theorem d_Ro_nextDue_62 : decode b_Ro_nextDue 62 = .ok (.aload_n 2, 1) := by decide +kernel
theorem d_Ro_nextDue_63 : decode b_Ro_nextDue 63 = .ok (.areturn, 1) := by decide +kernel
theorem d_Ro_settleDue_0 : decode b_Ro_settleDue 0 = .ok (.iconst 0, 1) := by decide +kernel
theorem d_Ro_settleDue_1 : decode b_Ro_settleDue 1 = .ok (.istore_n 2, 1) := by decide +kernel
theorem d_Ro_settleDue_2 : decode b_Ro_settleDue 2 = .ok (.iload_n 2, 1) := by decide +kernel
theorem d_Ro_settleDue_3 : decode b_Ro_settleDue 3 = .ok (.aload_n 0, 1) := by decide +kernel
theorem d_Ro_settleDue_4 : decode b_Ro_settleDue 4 = .ok (.getfield 20, 3) := by decide +kernel
theorem d_Ro_settleDue_7 : decode b_Ro_settleDue 7 = .ok (.if_icmp .ge 44, 3) := by decide +kernel
theorem d_Ro_settleDue_10 : decode b_Ro_settleDue 10 = .ok (.aload_n 0, 1) := by decide +kernel
theorem d_Ro_settleDue_11 : decode b_Ro_settleDue 11 = .ok (.iload_n 1, 1) := by decide +kernel
theorem d_Ro_settleDue_12 : decode b_Ro_settleDue 12 = .ok (.invokevirtual 76, 3) := by decide +kernel
theorem d_Ro_settleDue_15 : decode b_Ro_settleDue 15 = .ok (.astore_n 3, 1) := by decide +kernel
theorem d_Ro_settleDue_16 : decode b_Ro_settleDue 16 = .ok (.aload_n 3, 1) := by decide +kernel
theorem d_Ro_settleDue_17 : decode b_Ro_settleDue 17 = .ok (.ifnonnull 5, 3) := by decide +kernel
theorem d_Ro_settleDue_20 : decode b_Ro_settleDue 20 = .ok (.iload_n 2, 1) := by decide +kernel
theorem d_Ro_settleDue_21 : decode b_Ro_settleDue 21 = .ok (.ireturn, 1) := by decide +kernel
theorem d_Ro_settleDue_22 : decode b_Ro_settleDue 22 = .ok (.aload_n 3, 1) := by decide +kernel
theorem d_Ro_settleDue_23 : decode b_Ro_settleDue 23 = .ok (.getfield 35, 3) := by decide +kernel
theorem d_Ro_settleDue_26 : decode b_Ro_settleDue 26 = .ok (.iconst 2, 1) := by decide +kernel
theorem d_Ro_settleDue_27 : decode b_Ro_settleDue 27 = .ok (.if_icmp .ne 12, 3) := by decide +kernel
theorem d_Ro_settleDue_30 : decode b_Ro_settleDue 30 = .ok (.aload_n 0, 1) := by decide +kernel
theorem d_Ro_settleDue_31 : decode b_Ro_settleDue 31 = .ok (.aload_n 3, 1) := by decide +kernel
theorem d_Ro_settleDue_32 : decode b_Ro_settleDue 32 = .ok (.iload_n 1, 1) := by decide +kernel
theorem d_Ro_settleDue_33 : decode b_Ro_settleDue 33 = .ok (.invokevirtual 80, 3) := by decide +kernel
theorem d_Ro_settleDue_36 : decode b_Ro_settleDue 36 = .ok (.goto 9, 3) := by decide +kernel
theorem d_Ro_settleDue_39 : decode b_Ro_settleDue 39 = .ok (.aload_n 0, 1) := by decide +kernel
theorem d_Ro_settleDue_40 : decode b_Ro_settleDue 40 = .ok (.aload_n 3, 1) := by decide +kernel
theorem d_Ro_settleDue_41 : decode b_Ro_settleDue 41 = .ok (.iconst 1, 1) := by decide +kernel
theorem d_Ro_settleDue_42 : decode b_Ro_settleDue 42 = .ok (.invokevirtual 48, 3) := by decide +kernel
theorem d_Ro_settleDue_45 : decode b_Ro_settleDue 45 = .ok (.iinc 2 1, 3) := by decide +kernel
theorem d_Ro_settleDue_48 : decode b_Ro_settleDue 48 = .ok (.goto (-46), 3) := by decide +kernel
theorem d_Ro_settleDue_51 : decode b_Ro_settleDue 51 = .ok (.aload_n 0, 1) := by decide +kernel
theorem d_Ro_settleDue_52 : decode b_Ro_settleDue 52 = .ok (.getfield 20, 3) := by decide +kernel
theorem d_Ro_settleDue_55 : decode b_Ro_settleDue 55 = .ok (.ireturn, 1) := by decide +kernel
theorem d_Ro_hasLiveKey_0 : decode b_Ro_hasLiveKey 0 = .ok (.iload_n 1, 1) := by decide +kernel
theorem d_Ro_hasLiveKey_1 : decode b_Ro_hasLiveKey 1 = .ok (.iconst (-1), 1) := by decide +kernel
theorem d_Ro_hasLiveKey_2 : decode b_Ro_hasLiveKey 2 = .ok (.if_icmp .ne 5, 3) := by decide +kernel
theorem d_Ro_hasLiveKey_5 : decode b_Ro_hasLiveKey 5 = .ok (.iconst 0, 1) := by decide +kernel
theorem d_Ro_hasLiveKey_6 : decode b_Ro_hasLiveKey 6 = .ok (.ireturn, 1) := by decide +kernel
theorem d_Ro_hasLiveKey_7 : decode b_Ro_hasLiveKey 7 = .ok (.iconst 0, 1) := by decide +kernel
theorem d_Ro_hasLiveKey_8 : decode b_Ro_hasLiveKey 8 = .ok (.istore_n 2, 1) := by decide +kernel
theorem d_Ro_hasLiveKey_9 : decode b_Ro_hasLiveKey 9 = .ok (.iload_n 2, 1) := by decide +kernel
theorem d_Ro_hasLiveKey_10 : decode b_Ro_hasLiveKey 10 = .ok (.aload_n 0, 1) := by decide +kernel
theorem d_Ro_hasLiveKey_11 : decode b_Ro_hasLiveKey 11 = .ok (.getfield 20, 3) := by decide +kernel
theorem d_Ro_hasLiveKey_14 : decode b_Ro_hasLiveKey 14 = .ok (.if_icmp .ge 36, 3) := by decide +kernel
theorem d_Ro_hasLiveKey_17 : decode b_Ro_hasLiveKey 17 = .ok (.aload_n 0, 1) := by decide +kernel
theorem d_Ro_hasLiveKey_18 : decode b_Ro_hasLiveKey 18 = .ok (.getfield 11, 3) := by decide +kernel
theorem d_Ro_hasLiveKey_21 : decode b_Ro_hasLiveKey 21 = .ok (.iload_n 2, 1) := by decide +kernel
theorem d_Ro_hasLiveKey_22 : decode b_Ro_hasLiveKey 22 = .ok (.aaload, 1) := by decide +kernel
theorem d_Ro_hasLiveKey_23 : decode b_Ro_hasLiveKey 23 = .ok (.getfield 90, 3) := by decide +kernel
theorem d_Ro_hasLiveKey_26 : decode b_Ro_hasLiveKey 26 = .ok (.iload_n 1, 1) := by decide +kernel
theorem d_Ro_hasLiveKey_27 : decode b_Ro_hasLiveKey 27 = .ok (.if_icmp .ne 17, 3) := by decide +kernel
theorem d_Ro_hasLiveKey_30 : decode b_Ro_hasLiveKey 30 = .ok (.aload_n 0, 1) := by decide +kernel
theorem d_Ro_hasLiveKey_31 : decode b_Ro_hasLiveKey 31 = .ok (.getfield 11, 3) := by decide +kernel
theorem d_Ro_hasLiveKey_34 : decode b_Ro_hasLiveKey 34 = .ok (.iload_n 2, 1) := by decide +kernel
theorem d_Ro_hasLiveKey_35 : decode b_Ro_hasLiveKey 35 = .ok (.aaload, 1) := by decide +kernel
theorem d_Ro_hasLiveKey_36 : decode b_Ro_hasLiveKey 36 = .ok (.invokevirtual 93, 3) := by decide +kernel
theorem d_Ro_hasLiveKey_39 : decode b_Ro_hasLiveKey 39 = .ok (.ifCond .eq 5, 3) := by decide +kernel
theorem d_Ro_hasLiveKey_42 : decode b_Ro_hasLiveKey 42 = .ok (.iconst 1, 1) := by decide +kernel
theorem d_Ro_hasLiveKey_43 : decode b_Ro_hasLiveKey 43 = .ok (.ireturn, 1) := by decide +kernel
theorem d_Ro_hasLiveKey_44 : decode b_Ro_hasLiveKey 44 = .ok (.iinc 2 1, 3) := by decide +kernel
theorem d_Ro_hasLiveKey_47 : decode b_Ro_hasLiveKey 47 = .ok (.goto (-38), 3) := by decide +kernel
theorem d_Ro_hasLiveKey_50 : decode b_Ro_hasLiveKey 50 = .ok (.iconst 0, 1) := by decide +kernel
theorem d_Ro_hasLiveKey_51 : decode b_Ro_hasLiveKey 51 = .ok (.ireturn, 1) := by decide +kernel
theorem d_Ro_reservedBy_0 : decode b_Ro_reservedBy 0 = .ok (.iconst 0, 1) := by decide +kernel
theorem d_Ro_reservedBy_1 : decode b_Ro_reservedBy 1 = .ok (.istore_n 2, 1) := by decide +kernel
theorem d_Ro_reservedBy_2 : decode b_Ro_reservedBy 2 = .ok (.iload_n 2, 1) := by decide +kernel
theorem d_Ro_reservedBy_3 : decode b_Ro_reservedBy 3 = .ok (.aload_n 0, 1) := by decide +kernel
theorem d_Ro_reservedBy_4 : decode b_Ro_reservedBy 4 = .ok (.getfield 20, 3) := by decide +kernel
theorem d_Ro_reservedBy_7 : decode b_Ro_reservedBy 7 = .ok (.if_icmp .ge 42, 3) := by decide +kernel
theorem d_Ro_reservedBy_10 : decode b_Ro_reservedBy 10 = .ok (.aload_n 0, 1) := by decide +kernel
theorem d_Ro_reservedBy_11 : decode b_Ro_reservedBy 11 = .ok (.getfield 11, 3) := by decide +kernel
theorem d_Ro_reservedBy_14 : decode b_Ro_reservedBy 14 = .ok (.iload_n 2, 1) := by decide +kernel
theorem d_Ro_reservedBy_15 : decode b_Ro_reservedBy 15 = .ok (.aaload, 1) := by decide +kernel
theorem d_Ro_reservedBy_16 : decode b_Ro_reservedBy 16 = .ok (.getfield 35, 3) := by decide +kernel
theorem d_Ro_reservedBy_19 : decode b_Ro_reservedBy 19 = .ok (.iconst 2, 1) := by decide +kernel
theorem d_Ro_reservedBy_20 : decode b_Ro_reservedBy 20 = .ok (.if_icmp .ne 23, 3) := by decide +kernel
theorem d_Ro_reservedBy_23 : decode b_Ro_reservedBy 23 = .ok (.aload_n 0, 1) := by decide +kernel
theorem d_Ro_reservedBy_24 : decode b_Ro_reservedBy 24 = .ok (.getfield 11, 3) := by decide +kernel
theorem d_Ro_reservedBy_27 : decode b_Ro_reservedBy 27 = .ok (.iload_n 2, 1) := by decide +kernel
theorem d_Ro_reservedBy_28 : decode b_Ro_reservedBy 28 = .ok (.aaload, 1) := by decide +kernel
theorem d_Ro_reservedBy_29 : decode b_Ro_reservedBy 29 = .ok (.getfield 96, 3) := by decide +kernel
theorem d_Ro_reservedBy_32 : decode b_Ro_reservedBy 32 = .ok (.iload_n 1, 1) := by decide +kernel
theorem d_Ro_reservedBy_33 : decode b_Ro_reservedBy 33 = .ok (.if_icmp .ne 10, 3) := by decide +kernel
theorem d_Ro_reservedBy_36 : decode b_Ro_reservedBy 36 = .ok (.aload_n 0, 1) := by decide +kernel
theorem d_Ro_reservedBy_37 : decode b_Ro_reservedBy 37 = .ok (.getfield 11, 3) := by decide +kernel
theorem d_Ro_reservedBy_40 : decode b_Ro_reservedBy 40 = .ok (.iload_n 2, 1) := by decide +kernel
theorem d_Ro_reservedBy_41 : decode b_Ro_reservedBy 41 = .ok (.aaload, 1) := by decide +kernel
theorem d_Ro_reservedBy_42 : decode b_Ro_reservedBy 42 = .ok (.areturn, 1) := by decide +kernel
theorem d_Ro_reservedBy_43 : decode b_Ro_reservedBy 43 = .ok (.iinc 2 1, 3) := by decide +kernel
theorem d_Ro_reservedBy_46 : decode b_Ro_reservedBy 46 = .ok (.goto (-44), 3) := by decide +kernel
theorem d_Ro_reservedBy_49 : decode b_Ro_reservedBy 49 = .ok (.aconst_null, 1) := by decide +kernel
theorem d_Ro_reservedBy_50 : decode b_Ro_reservedBy 50 = .ok (.areturn, 1) := by decide +kernel
theorem d_Ro_nextInLine_0 : decode b_Ro_nextInLine 0 = .ok (.aconst_null, 1) := by decide +kernel
theorem d_Ro_nextInLine_1 : decode b_Ro_nextInLine 1 = .ok (.astore_n 3, 1) := by decide +kernel
theorem d_Ro_nextInLine_2 : decode b_Ro_nextInLine 2 = .ok (.iconst 0, 1) := by decide +kernel
theorem d_Ro_nextInLine_3 : decode b_Ro_nextInLine 3 = .ok (.istore 4, 2) := by decide +kernel
theorem d_Ro_nextInLine_5 : decode b_Ro_nextInLine 5 = .ok (.iload 4, 2) := by decide +kernel
theorem d_Ro_nextInLine_7 : decode b_Ro_nextInLine 7 = .ok (.aload_n 0, 1) := by decide +kernel
theorem d_Ro_nextInLine_8 : decode b_Ro_nextInLine 8 = .ok (.getfield 20, 3) := by decide +kernel
theorem d_Ro_nextInLine_11 : decode b_Ro_nextInLine 11 = .ok (.if_icmp .ge 65, 3) := by decide +kernel
theorem d_Ro_nextInLine_14 : decode b_Ro_nextInLine 14 = .ok (.aload_n 0, 1) := by decide +kernel
theorem d_Ro_nextInLine_15 : decode b_Ro_nextInLine 15 = .ok (.getfield 11, 3) := by decide +kernel
theorem d_Ro_nextInLine_18 : decode b_Ro_nextInLine 18 = .ok (.iload 4, 2) := by decide +kernel
theorem d_Ro_nextInLine_20 : decode b_Ro_nextInLine 20 = .ok (.aaload, 1) := by decide +kernel
theorem d_Ro_nextInLine_21 : decode b_Ro_nextInLine 21 = .ok (.astore 5, 2) := by decide +kernel
theorem d_Ro_nextInLine_23 : decode b_Ro_nextInLine 23 = .ok (.aload 5, 2) := by decide +kernel
theorem d_Ro_nextInLine_25 : decode b_Ro_nextInLine 25 = .ok (.getfield 35, 3) := by decide +kernel
theorem d_Ro_nextInLine_28 : decode b_Ro_nextInLine 28 = .ok (.iconst 1, 1) := by decide +kernel
theorem d_Ro_nextInLine_29 : decode b_Ro_nextInLine 29 = .ok (.if_icmp .ne 41, 3) := by decide +kernel
theorem d_Ro_nextInLine_32 : decode b_Ro_nextInLine 32 = .ok (.aload 5, 2) := by decide +kernel
theorem d_Ro_nextInLine_34 : decode b_Ro_nextInLine 34 = .ok (.getfield 103, 3) := by decide +kernel
theorem d_Ro_nextInLine_37 : decode b_Ro_nextInLine 37 = .ok (.iload_n 1, 1) := by decide +kernel
theorem d_Ro_nextInLine_38 : decode b_Ro_nextInLine 38 = .ok (.if_icmp .ne 32, 3) := by decide +kernel
theorem d_Ro_nextInLine_41 : decode b_Ro_nextInLine 41 = .ok (.aload_n 2, 1) := by decide +kernel
theorem d_Ro_nextInLine_42 : decode b_Ro_nextInLine 42 = .ok (.ifnull 12, 3) := by decide +kernel
theorem d_Ro_nextInLine_45 : decode b_Ro_nextInLine 45 = .ok (.aload_n 2, 1) := by decide +kernel
theorem d_Ro_nextInLine_46 : decode b_Ro_nextInLine 46 = .ok (.aload 5, 2) := by decide +kernel
theorem d_Ro_nextInLine_48 : decode b_Ro_nextInLine 48 = .ok (.invokevirtual 106, 3) := by decide +kernel
theorem d_Ro_nextInLine_51 : decode b_Ro_nextInLine 51 = .ok (.ifCond .eq 19, 3) := by decide +kernel
theorem d_Ro_nextInLine_54 : decode b_Ro_nextInLine 54 = .ok (.aload_n 3, 1) := by decide +kernel
theorem d_Ro_nextInLine_55 : decode b_Ro_nextInLine 55 = .ok (.ifnull 12, 3) := by decide +kernel
theorem d_Ro_nextInLine_58 : decode b_Ro_nextInLine 58 = .ok (.aload 5, 2) := by decide +kernel
theorem d_Ro_nextInLine_60 : decode b_Ro_nextInLine 60 = .ok (.aload_n 3, 1) := by decide +kernel
theorem d_Ro_nextInLine_61 : decode b_Ro_nextInLine 61 = .ok (.invokevirtual 106, 3) := by decide +kernel
theorem d_Ro_nextInLine_64 : decode b_Ro_nextInLine 64 = .ok (.ifCond .eq 6, 3) := by decide +kernel
theorem d_Ro_nextInLine_67 : decode b_Ro_nextInLine 67 = .ok (.aload 5, 2) := by decide +kernel
theorem d_Ro_nextInLine_69 : decode b_Ro_nextInLine 69 = .ok (.astore_n 3, 1) := by decide +kernel
theorem d_Ro_nextInLine_70 : decode b_Ro_nextInLine 70 = .ok (.iinc 4 1, 3) := by decide +kernel
theorem d_Ro_nextInLine_73 : decode b_Ro_nextInLine 73 = .ok (.goto (-68), 3) := by decide +kernel
theorem d_Ro_nextInLine_76 : decode b_Ro_nextInLine 76 = .ok (.aload_n 3, 1) := by decide +kernel
theorem d_Ro_nextInLine_77 : decode b_Ro_nextInLine 77 = .ok (.areturn, 1) := by decide +kernel
theorem d_Ro_inLine_0 : decode b_Ro_inLine 0 = .ok (.aload_n 0, 1) := by decide +kernel
theorem d_Ro_inLine_1 : decode b_Ro_inLine 1 = .ok (.iload_n 1, 1) := by decide +kernel
theorem d_Ro_inLine_2 : decode b_Ro_inLine 2 = .ok (.aconst_null, 1) := by decide +kernel
theorem d_Ro_inLine_3 : decode b_Ro_inLine 3 = .ok (.invokevirtual 99, 3) := by decide +kernel
theorem d_Ro_inLine_6 : decode b_Ro_inLine 6 = .ok (.astore_n 3, 1) := by decide +kernel
theorem d_Ro_inLine_7 : decode b_Ro_inLine 7 = .ok (.iconst 0, 1) := by decide +kernel
theorem d_Ro_inLine_8 : decode b_Ro_inLine 8 = .ok (.istore 4, 2) := by decide +kernel
theorem d_Ro_inLine_10 : decode b_Ro_inLine 10 = .ok (.iload 4, 2) := by decide +kernel
theorem d_Ro_inLine_12 : decode b_Ro_inLine 12 = .ok (.iload_n 2, 1) := by decide +kernel
theorem d_Ro_inLine_13 : decode b_Ro_inLine 13 = .ok (.if_icmp .ge 20, 3) := by decide +kernel
theorem d_Ro_inLine_16 : decode b_Ro_inLine 16 = .ok (.aload_n 3, 1) := by decide +kernel
theorem d_Ro_inLine_17 : decode b_Ro_inLine 17 = .ok (.ifnull 16, 3) := by decide +kernel
theorem d_Ro_inLine_20 : decode b_Ro_inLine 20 = .ok (.aload_n 0, 1) := by decide +kernel
theorem d_Ro_inLine_21 : decode b_Ro_inLine 21 = .ok (.iload_n 1, 1) := by decide +kernel
theorem d_Ro_inLine_22 : decode b_Ro_inLine 22 = .ok (.aload_n 3, 1) := by decide +kernel
theorem d_Ro_inLine_23 : decode b_Ro_inLine 23 = .ok (.invokevirtual 99, 3) := by decide +kernel
theorem d_Ro_inLine_26 : decode b_Ro_inLine 26 = .ok (.astore_n 3, 1) := by decide +kernel
theorem d_Ro_inLine_27 : decode b_Ro_inLine 27 = .ok (.iinc 4 1, 3) := by decide +kernel
theorem d_Ro_inLine_30 : decode b_Ro_inLine 30 = .ok (.goto (-20), 3) := by decide +kernel
theorem d_Ro_inLine_33 : decode b_Ro_inLine 33 = .ok (.aload_n 3, 1) := by decide +kernel
theorem d_Ro_inLine_34 : decode b_Ro_inLine 34 = .ok (.areturn, 1) := by decide +kernel
def fn_Ro_bury (N : Nat) (o0 : Nat) (q0 : Nat) (σ : gx_M) : Option gx_M := if 8 ≤ o0 ∧ o0 < 25 then (if 42 ≤ q0 ∧ q0 < 722 then (gx_bd (fn_Ro_oldestDead N o0 σ) (fun x_3 σ_1 => gx_mt x_3 (gx_bv (fn_Ro_enter N o0 q0 ((5 : Int32)) σ_1) (fun σ_6 => some σ_6)) (fun o_4 => if 42 ≤ o_4 ∧ o_4 < 722 then (gx_bd (fn_Ro_countIn N o0 ((5 : Int32)) σ_1) (fun r_10 σ_8 => if r_10 < ((8 : Int32)) then (gx_bv (fn_Ro_enter N o0 q0 ((5 : Int32)) σ_8) (fun σ_12 => some σ_12)) else (gx_lt (gx_up σ_8 o_4 10 ((7 : Int32))) (fun σ_14 => gx_bv (fn_Ro_enter N o0 q0 ((5 : Int32)) σ_14) (fun σ_15 => some σ_15))))) else none))) else none) else none
set_option maxHeartbeats 4000000 in
set_option maxRecDepth 100000 in
theorem ct_Ro_bury (l : Launch) (D : va_G) (dA : Nat → ClassId) (adr : Nat → Nat) (A : Nat → Prop) (hA : gx_A A adr) (N : Nat) (o0 : Nat) (q0 : Nat) (σ : gx_M) (σ' : gx_M) (hf : fn_Ro_bury N o0 q0 σ = some σ') : Met l y_Ro_bury w_Ro_bury rm_Ro_bury (gx_Pc D dA adr σ [.ref (adr o0), .ref (adr q0)]) (gx_Q D dA adr A none σ') 0 0 A := by
  refine Met.ofW (cc := b_Ro_bury) (maxL := 3) (ret := none) (by decide) rfl ?_
  intro p e s m args below meth c s₁ B hml hv
  obtain ⟨rfl, hP, hK⟩ := hv
  have hx := B.exec
  have hb := B.bytes
  have hr := B.returns
  have hlocks := B.notSynchronized
  have ht : ∀ w ∈ gx_tb, w.before _ s = true := fun w h => atoms_spec (ws := w_Ro_bury) B.pre w (List.mem_cons_of_mem _ h)
  have hown : s.vm.findClass R_Ro = some m.cls := findClass_of_methodNamed B.named
  have G : gx_G p m c b_Ro_bury 3 s _ gx_tb R_Ro D dA := ⟨⟨hx, hb, hml, hown, ht⟩, hK⟩
  have hI : gx_I D dA adr A s.heap σ s.heap [] := ⟨hP, va_S.rf⟩
  have hl := lv_entry ([.ref (adr o0), .ref (adr q0)]) (n := 3) (Nat.le_of_ble_eq_true rfl)
  rw [lg_entry_eq]
  generalize (lg_sl ([.ref (adr o0), .ref (adr q0)]) ++ List.replicate (3 - (lg_sl ([.ref (adr o0), .ref (adr q0)])).length) Slot.unset).toArray = ls at hl ⊢
  have hl : lv_has ls 3 [(0, .ref (adr o0)), (1, .ref (adr q0))] := hl
  rw [fn_Ro_bury] at hf
  obtain ⟨ho0, hf⟩ := gx_gd hf
  obtain ⟨hq0, hf⟩ := gx_gd hf
  refine lv_aload_n hx hb d_Ro_bury_0 rfl (lv_at hl 0 rfl) ?_
  obtain ⟨x_3, σ_1, hc_2, hf⟩ := gx_bde hf
  rcases x_3 with _ | o_4
  · replace hf := gx_mtn hf
    refine gx_go (va_runV (As := []) (rest := []) G.1 (ct_Ro_oldestDead l D dA adr A hA N o0 σ none σ_1 hc_2) (cwV 0 ht gi_Ro_68 rfl rfl rfl (by decide +kernel) ⟨Nat.le_of_ble_eq_true rfl, Nat.le_of_ble_eq_true rfl⟩) (gx_preV G hI cl_Ro (gx_ci_r ho0)) rfl rfl hl.1 rfl (lv_room (Nat.le_of_ble_eq_true rfl)) d_Ro_bury_1 ⟨Nat.zero_le _, Nat.zero_le _⟩) hI (st1 := [.null]) rfl (fun H locs hI => ?_)
    refine lv_astore_nN (i := 2) (lv' := [(2, .null), (0, .ref (adr o0)), (1, .ref (adr q0))]) hx hb d_Ro_bury_4 rfl hl (by decide) rfl (fun ls hl => ?_)
    refine lv_aload_nN hx hb d_Ro_bury_5 rfl (lv_at hl 0 rfl) ?_
    refine lv_ifnullN (tgt := 25) hx hb d_Ro_bury_6 (by decide) ?_
    refine lv_aload_n hx hb d_Ro_bury_25 rfl (lv_at hl 1 rfl) ?_
    refine lv_aload_n hx hb d_Ro_bury_26 rfl (lv_at hl 2 rfl) ?_
    refine lv_iconst (v := 5) hx hb d_Ro_bury_27 (by decide) ?_
    obtain ⟨σ_6, hc_7, hf⟩ := gx_bve hf
    refine gx_go (va_runV (As := [.ref (adr q0), .int ((5 : Int32))]) (rest := []) G.1 (ct_Ro_enter l D dA adr A hA N o0 q0 ((5 : Int32)) σ_1 σ_6 hc_7) (cwV 2 ht gi_Ro_48 rfl rfl rfl (by decide +kernel) ⟨Nat.le_of_ble_eq_true rfl, Nat.le_of_ble_eq_true rfl⟩) (gx_preV G hI cl_Ro (gx_ci_r ho0)) rfl rfl hl.1 rfl (lv_room (Nat.le_of_ble_eq_true rfl)) d_Ro_bury_28 ⟨Nat.zero_le _, Nat.zero_le _⟩) hI (st1 := []) rfl (fun H locs hI => ?_)
    cases hf
    exact W.vret hx hb hr (gx_F hI) hI.2.2.2 d_Ro_bury_31
  · replace hf := gx_mts hf
    obtain ⟨hg_5, hf⟩ := gx_gd hf
    refine gx_go (va_runV (As := []) (rest := []) G.1 (ct_Ro_oldestDead l D dA adr A hA N o0 σ (some o_4) σ_1 hc_2) (cwV 0 ht gi_Ro_68 rfl rfl rfl (by decide +kernel) ⟨Nat.le_of_ble_eq_true rfl, Nat.le_of_ble_eq_true rfl⟩) (gx_preV G hI cl_Ro (gx_ci_r ho0)) rfl rfl hl.1 rfl (lv_room (Nat.le_of_ble_eq_true rfl)) d_Ro_bury_1 ⟨Nat.zero_le _, Nat.zero_le _⟩) hI (st1 := [.ref (adr o_4)]) rfl (fun H locs hI => ?_)
    refine lv_astore_n (i := 2) (lv' := [(2, .ref (adr o_4)), (0, .ref (adr o0)), (1, .ref (adr q0))]) hx hb d_Ro_bury_4 rfl hl (by decide) rfl (fun ls hl => ?_)
    refine lv_aload_n hx hb d_Ro_bury_5 rfl (lv_at hl 0 rfl) ?_
    refine lv_ifnull hx hb d_Ro_bury_6 ?_
    refine lv_aload_n hx hb d_Ro_bury_9 rfl (lv_at hl 1 rfl) ?_
    refine lv_iconst (v := 5) hx hb d_Ro_bury_10 (by decide) ?_
    obtain ⟨r_10, σ_8, hc_9, hf⟩ := gx_bde hf
    refine gx_go (va_runV (As := [.int ((5 : Int32))]) (rest := []) G.1 (ct_Ro_countIn l D dA adr A hA N o0 ((5 : Int32)) σ_1 r_10 σ_8 hc_9) (cwV 1 ht gi_Ro_72 rfl rfl rfl (by decide +kernel) ⟨Nat.le_of_ble_eq_true rfl, Nat.le_of_ble_eq_true rfl⟩) (gx_preV G hI cl_Ro (gx_ci_r ho0)) rfl rfl hl.1 rfl (lv_room (Nat.le_of_ble_eq_true rfl)) d_Ro_bury_11 ⟨Nat.zero_le _, Nat.zero_le _⟩) hI (st1 := [.int r_10]) rfl (fun H locs hI => ?_)
    refine lv_bipush (v := 8) hx hb d_Ro_bury_14 (by decide) ?_
    refine lv_icmp_lt (tgt := 25) hx hb d_Ro_bury_16 (by decide) (fun c_11 => ?_) (fun c_11 => ?_)
    · replace hf := (if_pos c_11).symm.trans hf
      refine lv_aload_n hx hb d_Ro_bury_25 rfl (lv_at hl 1 rfl) ?_
      refine lv_aload_n hx hb d_Ro_bury_26 rfl (lv_at hl 2 rfl) ?_
      refine lv_iconst (v := 5) hx hb d_Ro_bury_27 (by decide) ?_
      obtain ⟨σ_12, hc_13, hf⟩ := gx_bve hf
      refine gx_go (va_runV (As := [.ref (adr q0), .int ((5 : Int32))]) (rest := []) G.1 (ct_Ro_enter l D dA adr A hA N o0 q0 ((5 : Int32)) σ_8 σ_12 hc_13) (cwV 2 ht gi_Ro_48 rfl rfl rfl (by decide +kernel) ⟨Nat.le_of_ble_eq_true rfl, Nat.le_of_ble_eq_true rfl⟩) (gx_preV G hI cl_Ro (gx_ci_r ho0)) rfl rfl hl.1 rfl (lv_room (Nat.le_of_ble_eq_true rfl)) d_Ro_bury_28 ⟨Nat.zero_le _, Nat.zero_le _⟩) hI (st1 := []) rfl (fun H locs hI => ?_)
      cases hf
      exact W.vret hx hb hr (gx_F hI) hI.2.2.2 d_Ro_bury_31
    · replace hf := (if_neg c_11).symm.trans hf
      refine lv_aload_n hx hb d_Ro_bury_19 rfl (lv_at hl 0 rfl) ?_
      refine lv_bipush (v := 7) hx hb d_Ro_bury_20 (by decide) ?_
      obtain ⟨σ_14, eσ_14, hf⟩ := gx_lte hf
      refine gx_put G hI hA cl_Jb (gx_ci_j hg_5) 10 (by decide) (gx_rf_j hg_5 10) fl_Ro_35 rfl rfl rfl eσ_14 d_Ro_bury_22 (fun H locs hI => ?_)
      refine lv_aload_n hx hb d_Ro_bury_25 rfl (lv_at hl 1 rfl) ?_
      refine lv_aload_n hx hb d_Ro_bury_26 rfl (lv_at hl 2 rfl) ?_
      refine lv_iconst (v := 5) hx hb d_Ro_bury_27 (by decide) ?_
      obtain ⟨σ_15, hc_16, hf⟩ := gx_bve hf
      refine gx_go (va_runV (As := [.ref (adr q0), .int ((5 : Int32))]) (rest := []) G.1 (ct_Ro_enter l D dA adr A hA N o0 q0 ((5 : Int32)) σ_14 σ_15 hc_16) (cwV 2 ht gi_Ro_48 rfl rfl rfl (by decide +kernel) ⟨Nat.le_of_ble_eq_true rfl, Nat.le_of_ble_eq_true rfl⟩) (gx_preV G hI cl_Ro (gx_ci_r ho0)) rfl rfl hl.1 rfl (lv_room (Nat.le_of_ble_eq_true rfl)) d_Ro_bury_28 ⟨Nat.zero_le _, Nat.zero_le _⟩) hI (st1 := []) rfl (fun H locs hI => ?_)
      cases hf
      exact W.vret hx hb hr (gx_F hI) hI.2.2.2 d_Ro_bury_31
def fn_Ro_failReserved (N : Nat) (o0 : Nat) (q0 : Nat) (p1 : Int32) (σ : gx_M) : Option gx_M := if 8 ≤ o0 ∧ o0 < 25 then (if 42 ≤ q0 ∧ q0 < 722 then (gx_lt (gx_up σ q0 6 ((σ q0 6) + ((1 : Int32)))) (fun σ_1 => if (σ_1 q0 6) ≤ (σ_1 q0 3) then (gx_bd (fn_Jb_retryDelay N q0 σ_1) (fun r_5 σ_3 => gx_bv (fn_Jb_waitUntil N q0 ((3 : Int32)) (p1 + r_5) σ_3) (fun σ_6 => some σ_6))) else (gx_bv (fn_Ro_bury N o0 q0 σ_1) (fun σ_8 => some σ_8)))) else none) else none
set_option maxHeartbeats 4000000 in
set_option maxRecDepth 100000 in
theorem ct_Ro_failReserved (l : Launch) (D : va_G) (dA : Nat → ClassId) (adr : Nat → Nat) (A : Nat → Prop) (hA : gx_A A adr) (N : Nat) (o0 : Nat) (q0 : Nat) (p1 : Int32) (σ : gx_M) (σ' : gx_M) (hf : fn_Ro_failReserved N o0 q0 p1 σ = some σ') : Met l y_Ro_failReserved w_Ro_failReserved rm_Ro_failReserved (gx_Pc D dA adr σ [.ref (adr o0), .ref (adr q0), .int p1]) (gx_Q D dA adr A none σ') 0 0 A := by
  refine Met.ofW (cc := b_Ro_failReserved) (maxL := 3) (ret := none) (by decide) rfl ?_
  intro p e s m args below meth c s₁ B hml hv
  obtain ⟨rfl, hP, hK⟩ := hv
  have hx := B.exec
  have hb := B.bytes
  have hr := B.returns
  have hlocks := B.notSynchronized
  have ht : ∀ w ∈ gx_tb, w.before _ s = true := fun w h => atoms_spec (ws := w_Ro_failReserved) B.pre w (List.mem_cons_of_mem _ h)
  have hown : s.vm.findClass R_Ro = some m.cls := findClass_of_methodNamed B.named
  have G : gx_G p m c b_Ro_failReserved 3 s _ gx_tb R_Ro D dA := ⟨⟨hx, hb, hml, hown, ht⟩, hK⟩
  have hI : gx_I D dA adr A s.heap σ s.heap [] := ⟨hP, va_S.rf⟩
  have hl := lv_entry ([.ref (adr o0), .ref (adr q0), .int p1]) (n := 3) (Nat.le_of_ble_eq_true rfl)
  rw [lg_entry_eq]
  generalize (lg_sl ([.ref (adr o0), .ref (adr q0), .int p1]) ++ List.replicate (3 - (lg_sl ([.ref (adr o0), .ref (adr q0), .int p1])).length) Slot.unset).toArray = ls at hl ⊢
  have hl : lv_has ls 3 [(0, .ref (adr o0)), (1, .ref (adr q0)), (2, .int p1)] := hl
  rw [fn_Ro_failReserved] at hf
  obtain ⟨ho0, hf⟩ := gx_gd hf
  obtain ⟨hq0, hf⟩ := gx_gd hf
  refine lv_aload_n hx hb d_Ro_failReserved_0 rfl (lv_at hl 1 rfl) ?_
  refine lv_dup hx hb d_Ro_failReserved_1 rfl ?_
  refine gx_getI G hI cl_Jb (gx_ci_j hq0) 6 (by decide) (gx_rf_j hq0 6) fl_Ro_52 d_Ro_failReserved_2 ?_
  refine lv_iconst (v := 1) hx hb d_Ro_failReserved_5 (by decide) ?_
  refine lv_iadd hx hb d_Ro_failReserved_6 ?_
  obtain ⟨σ_1, eσ_1, hf⟩ := gx_lte hf
  refine gx_put G hI hA cl_Jb (gx_ci_j hq0) 6 (by decide) (gx_rf_j hq0 6) fl_Ro_52 rfl rfl rfl eσ_1 d_Ro_failReserved_7 (fun H locs hI => ?_)
  refine lv_aload_n hx hb d_Ro_failReserved_10 rfl (lv_at hl 1 rfl) ?_
  refine gx_getI G hI cl_Jb (gx_ci_j hq0) 6 (by decide) (gx_rf_j hq0 6) fl_Ro_52 d_Ro_failReserved_11 ?_
  refine lv_aload_n hx hb d_Ro_failReserved_14 rfl (lv_at hl 1 rfl) ?_
  refine gx_getI G hI cl_Jb (gx_ci_j hq0) 3 (by decide) (gx_rf_j hq0 3) fl_Ro_55 d_Ro_failReserved_15 ?_
  refine lv_icmp_le (tgt := 29) hx hb d_Ro_failReserved_18 (by decide) (fun c_2 => ?_) (fun c_2 => ?_)
  · replace hf := (if_pos c_2).symm.trans hf
    refine lv_aload_n hx hb d_Ro_failReserved_29 rfl (lv_at hl 1 rfl) ?_
    refine lv_iconst (v := 3) hx hb d_Ro_failReserved_30 (by decide) ?_
    refine lv_iload_n hx hb d_Ro_failReserved_31 rfl (lv_at hl 2 rfl) ?_
    refine lv_aload_n hx hb d_Ro_failReserved_32 rfl (lv_at hl 1 rfl) ?_
    obtain ⟨r_5, σ_3, hc_4, hf⟩ := gx_bde hf
    refine gx_go (va_runV (As := []) (rest := [.int p1, .int ((3 : Int32)), .ref (adr q0)]) G.1 (ct_Jb_retryDelay l D dA adr A hA N q0 σ_1 r_5 σ_3 hc_4) (cwV 0 ht gi_Ro_61 rfl rfl rfl (by decide +kernel) ⟨Nat.le_of_ble_eq_true rfl, Nat.le_of_ble_eq_true rfl⟩) (gx_preV G hI cl_Jb (gx_ci_j hq0)) rfl rfl hl.1 rfl (lv_room (Nat.le_of_ble_eq_true rfl)) d_Ro_failReserved_33 ⟨Nat.zero_le _, Nat.zero_le _⟩) hI (st1 := [.int r_5, .int p1, .int ((3 : Int32)), .ref (adr q0)]) rfl (fun H locs hI => ?_)
    refine lv_iadd hx hb d_Ro_failReserved_36 ?_
    obtain ⟨σ_6, hc_7, hf⟩ := gx_bve hf
    refine gx_go (va_runV (As := [.int ((3 : Int32)), .int (p1 + r_5)]) (rest := []) G.1 (ct_Jb_waitUntil l D dA adr A hA N q0 ((3 : Int32)) (p1 + r_5) σ_3 σ_6 hc_7) (cwV 2 ht gi_Ro_65 rfl rfl rfl (by decide +kernel) ⟨Nat.le_of_ble_eq_true rfl, Nat.le_of_ble_eq_true rfl⟩) (gx_preV G hI cl_Jb (gx_ci_j hq0)) rfl rfl hl.1 rfl (lv_room (Nat.le_of_ble_eq_true rfl)) d_Ro_failReserved_37 ⟨Nat.zero_le _, Nat.zero_le _⟩) hI (st1 := []) rfl (fun H locs hI => ?_)
    cases hf
    exact W.vret hx hb hr (gx_F hI) hI.2.2.2 d_Ro_failReserved_40
  · replace hf := (if_neg c_2).symm.trans hf
    refine lv_aload_n hx hb d_Ro_failReserved_21 rfl (lv_at hl 0 rfl) ?_
    refine lv_aload_n hx hb d_Ro_failReserved_22 rfl (lv_at hl 1 rfl) ?_
    obtain ⟨σ_8, hc_9, hf⟩ := gx_bve hf
    refine gx_go (va_runV (As := [.ref (adr q0)]) (rest := []) G.1 (ct_Ro_bury l D dA adr A hA N o0 q0 σ_1 σ_8 hc_9) (cwV 1 ht gi_Ro_58 rfl rfl rfl (by decide +kernel) ⟨Nat.le_of_ble_eq_true rfl, Nat.le_of_ble_eq_true rfl⟩) (gx_preV G hI cl_Ro (gx_ci_r ho0)) rfl rfl hl.1 rfl (lv_room (Nat.le_of_ble_eq_true rfl)) d_Ro_failReserved_23 ⟨Nat.zero_le _, Nat.zero_le _⟩) hI (st1 := []) rfl (fun H locs hI => ?_)
    refine lv_goto (tgt := 40) hx hb d_Ro_failReserved_26 (by decide) ?_
    cases hf
    exact W.vret hx hb hr (gx_F hI) hI.2.2.2 d_Ro_failReserved_40
def fn_Ro_nextDue_L4 (N : Nat) (u0 : Nat) (u1 : Int32) : Nat → Int32 → Option Nat → gx_M → Option (Option Nat × gx_M)
  | 0, _, _, _ => none
  | n + 1, v3, v2, σ => if (σ u0 1) ≤ v3 then (gx_mt v2 (some (none, σ)) (fun o_2 => if 42 ≤ o_2 ∧ o_2 < 722 then (some (some o_2, σ)) else none)) else (if 0 ≤ v3 ∧ v3 < 40 then (gx_bd (fn_Jb_isTimed N (gx_el (u0 + 17) v3.toNatClampNeg) σ) (fun r_7 σ_5 => if r_7 = 0 then (fn_Ro_nextDue_L4 N u0 u1 n (v3 + 1) v2 σ_5) else (if u1 < (σ_5 (gx_el (u0 + 17) v3.toNatClampNeg) 11) then (fn_Ro_nextDue_L4 N u0 u1 n (v3 + 1) v2 σ_5) else (gx_mt v2 (fn_Ro_nextDue_L4 N u0 u1 n (v3 + 1) (some (gx_el (u0 + 17) v3.toNatClampNeg)) σ_5) (fun o_10 => if 42 ≤ o_10 ∧ o_10 < 722 then (if (σ_5 o_10 11) ≤ (σ_5 (gx_el (u0 + 17) v3.toNatClampNeg) 11) then (fn_Ro_nextDue_L4 N u0 u1 n (v3 + 1) (some o_10) σ_5) else (fn_Ro_nextDue_L4 N u0 u1 n (v3 + 1) (some (gx_el (u0 + 17) v3.toNatClampNeg)) σ_5)) else none))))) else none)
def fn_Ro_nextDue (N : Nat) (o0 : Nat) (p0 : Int32) (σ : gx_M) : Option (Option Nat × gx_M) := if 8 ≤ o0 ∧ o0 < 25 then (fn_Ro_nextDue_L4 N o0 p0 N ((0 : Int32)) none σ) else none
set_option maxHeartbeats 4000000 in
set_option maxRecDepth 100000 in
theorem wl_Ro_nextDue_L4 {p : Program} {l : Launch} {e : Env} {s : State} {m : MethodId} {args : Array Value} {below : List Frame} {meth : Method} {c : Code} {D : va_G} {dA : Nat → ClassId} {adr : Nat → Nat} {A : Nat → Prop} (G : gx_G p m c b_Ro_nextDue 5 s args gx_tb R_Ro D dA) (hr : meth.sig.returnType = some (.object R_Jb)) (hlocks : meth.locks = false) (hA : gx_A A adr) (N : Nat) (res : Option Nat × gx_M) (u0 : Nat) (u1 : Int32) (hu0 : 8 ≤ u0 ∧ u0 < 25) : ∀ (n : Nat) (v3 : Int32) (v2 : Option Nat) (σ : gx_M) (H : Heap) (locs : List Loc) (ls : Array Slot), fn_Ro_nextDue_L4 N u0 u1 n v3 v2 σ = some res → gx_I D dA adr A s.heap σ H locs → lv_has ls 5 [(3, .int v3), (2, va_rf (Option.map adr v2)), (0, .ref (adr u0)), (1, .int u1)] → W p l e (headSpec w_Ro_nextDue rm_Ro_nextDue).room s m args below meth c H locs 0 0 (MQ below (gx_Q D dA adr A (some (va_rf (Option.map adr res.1))) res.2) args s 0 0 A) (F0 m 4 ls []) := by
  obtain ⟨⟨hx, hb, hml, hown, ht⟩, hK⟩ := id G
  intro n
  induction n with
  | zero =>
    intro v3 v2 σ H locs ls hf
    cases hf
  | succ n ih =>
    intro v3 v2 σ H locs ls hf hI hl
    rw [fn_Ro_nextDue_L4] at hf
    refine lv_iload_n hx hb d_Ro_nextDue_4 rfl (lv_at hl 0 rfl) ?_
    refine lv_aload_n hx hb d_Ro_nextDue_5 rfl (lv_at hl 2 rfl) ?_
    refine gx_getI G hI cl_Ro (gx_ci_r hu0) 1 (by decide) (gx_rf_r hu0 (by decide)) fl_Ro_20 d_Ro_nextDue_6 ?_
    refine lv_icmp_ge (tgt := 62) hx hb d_Ro_nextDue_9 (by decide) (fun c_1 => ?_) (fun c_1 => ?_)
    · replace hf := (if_pos c_1).symm.trans hf
      rcases v2 with _ | o_2
      · replace hf := gx_mtn hf
        refine lv_aload_nN hx hb d_Ro_nextDue_62 rfl (lv_at hl 1 rfl) ?_
        cases hf
        exact W.aret (v := .null) hx hb hr (Or.inl ⟨_, rfl⟩) (Or.inl rfl) (gx_F hI) hI.2.2.2 d_Ro_nextDue_63
      · replace hf := gx_mts hf
        obtain ⟨hg_3, hf⟩ := gx_gd hf
        refine lv_aload_n hx hb d_Ro_nextDue_62 rfl (lv_at hl 1 rfl) ?_
        cases hf
        exact W.aret hx hb hr (Or.inl ⟨_, rfl⟩) (Or.inr ⟨_, rfl⟩) (gx_F hI) hI.2.2.2 d_Ro_nextDue_63
    · replace hf := (if_neg c_1).symm.trans hf
      refine lv_aload_n hx hb d_Ro_nextDue_12 rfl (lv_at hl 2 rfl) ?_
      refine gx_getR (o' := u0 + 17) G hI cl_Ro (gx_ci_r hu0) 0 (by decide) (gx_rf_r0 hu0) fl_Ro_11 d_Ro_nextDue_13 ?_
      refine lv_iload_n hx hb d_Ro_nextDue_16 rfl (lv_at hl 0 rfl) ?_
      obtain ⟨hi_4, hf⟩ := gx_gd hf
      refine gx_aldJ G hI hu0 hi_4 d_Ro_nextDue_17 ?_
      refine lv_astore (i := 4) (lv' := [(4, .ref (adr (gx_el (u0 + 17) v3.toNatClampNeg))), (3, .int v3), (2, va_rf (Option.map adr v2)), (0, .ref (adr u0)), (1, .int u1)]) hx hb d_Ro_nextDue_18 hl (by decide) rfl (fun ls hl => ?_)
      refine lv_aload hx hb d_Ro_nextDue_20 (lv_at hl 0 rfl) ?_
      obtain ⟨r_7, σ_5, hc_6, hf⟩ := gx_bde hf
      refine gx_go (va_runV (As := []) (rest := []) G.1 (ct_Jb_isTimed l D dA adr A hA N (gx_el (u0 + 17) v3.toNatClampNeg) σ r_7 σ_5 hc_6) (cwV 0 ht gi_Ro_83 rfl rfl rfl (by decide +kernel) ⟨Nat.le_of_ble_eq_true rfl, Nat.le_of_ble_eq_true rfl⟩) (gx_preV G hI cl_Jb (gx_ci_j (gx_el_j hu0 hi_4))) rfl rfl hl.1 rfl (lv_room (Nat.le_of_ble_eq_true rfl)) d_Ro_nextDue_22 ⟨Nat.zero_le _, Nat.zero_le _⟩) hI (st1 := [.int r_7]) rfl (fun H locs hI => ?_)
      refine lv_if_eq (tgt := 56) hx hb d_Ro_nextDue_25 (by decide) (fun c_8 => ?_) (fun c_8 => ?_)
      · replace hf := (if_pos c_8).symm.trans hf
        refine lv_iinc (v := v3 + 1) (lv' := [(3, .int (v3 + 1)), (4, .ref (adr (gx_el (u0 + 17) v3.toNatClampNeg))), (2, va_rf (Option.map adr v2)), (0, .ref (adr u0)), (1, .int u1)]) hx hb d_Ro_nextDue_56 hl (k := 1) rfl rfl (by decide) (by simp [gx_cat, gx_rfs, gx_rfn]) (fun ls hl => ?_)
        refine lv_goto (tgt := 4) hx hb d_Ro_nextDue_59 (by decide) ?_
        exact ih (v3 + 1) v2 σ_5 H locs ls hf hI (lv_sub hl [0, 2, 3, 4] rfl)
      · replace hf := (if_neg c_8).symm.trans hf
        refine lv_aload hx hb d_Ro_nextDue_28 (lv_at hl 0 rfl) ?_
        refine gx_getI G hI cl_Jb (gx_ci_j (gx_el_j hu0 hi_4)) 11 (by decide) (gx_rf_j (gx_el_j hu0 hi_4) 11) fl_Ro_87 d_Ro_nextDue_30 ?_
        refine lv_iload_n hx hb d_Ro_nextDue_33 rfl (lv_at hl 4 rfl) ?_
        refine lv_icmp_gt (tgt := 56) hx hb d_Ro_nextDue_34 (by decide) (fun c_9 => ?_) (fun c_9 => ?_)
        · replace hf := (if_pos c_9).symm.trans hf
          refine lv_iinc (v := v3 + 1) (lv' := [(3, .int (v3 + 1)), (4, .ref (adr (gx_el (u0 + 17) v3.toNatClampNeg))), (2, va_rf (Option.map adr v2)), (0, .ref (adr u0)), (1, .int u1)]) hx hb d_Ro_nextDue_56 hl (k := 1) rfl rfl (by decide) (by simp [gx_cat, gx_rfs, gx_rfn]) (fun ls hl => ?_)
          refine lv_goto (tgt := 4) hx hb d_Ro_nextDue_59 (by decide) ?_
          exact ih (v3 + 1) v2 σ_5 H locs ls hf hI (lv_sub hl [0, 2, 3, 4] rfl)
        · replace hf := (if_neg c_9).symm.trans hf
          rcases v2 with _ | o_10
          · replace hf := gx_mtn hf
            refine lv_aload_nN hx hb d_Ro_nextDue_37 rfl (lv_at hl 2 rfl) ?_
            refine lv_ifnullN (tgt := 53) hx hb d_Ro_nextDue_38 (by decide) ?_
            refine lv_aload hx hb d_Ro_nextDue_53 (lv_at hl 0 rfl) ?_
            refine lv_astore_n (i := 2) (lv' := [(2, .ref (adr (gx_el (u0 + 17) v3.toNatClampNeg))), (4, .ref (adr (gx_el (u0 + 17) v3.toNatClampNeg))), (3, .int v3), (0, .ref (adr u0)), (1, .int u1)]) hx hb d_Ro_nextDue_55 rfl hl (by decide) rfl (fun ls hl => ?_)
            refine lv_iinc (v := v3 + 1) (lv' := [(3, .int (v3 + 1)), (2, .ref (adr (gx_el (u0 + 17) v3.toNatClampNeg))), (4, .ref (adr (gx_el (u0 + 17) v3.toNatClampNeg))), (0, .ref (adr u0)), (1, .int u1)]) hx hb d_Ro_nextDue_56 hl (k := 2) rfl rfl (by decide) rfl (fun ls hl => ?_)
            refine lv_goto (tgt := 4) hx hb d_Ro_nextDue_59 (by decide) ?_
            exact ih (v3 + 1) (some (gx_el (u0 + 17) v3.toNatClampNeg)) σ_5 H locs ls hf hI (lv_sub hl [0, 1, 3, 4] rfl)
          · replace hf := gx_mts hf
            obtain ⟨hg_11, hf⟩ := gx_gd hf
            refine lv_aload_n hx hb d_Ro_nextDue_37 rfl (lv_at hl 2 rfl) ?_
            refine lv_ifnull hx hb d_Ro_nextDue_38 ?_
            refine lv_aload hx hb d_Ro_nextDue_41 (lv_at hl 0 rfl) ?_
            refine gx_getI G hI cl_Jb (gx_ci_j (gx_el_j hu0 hi_4)) 11 (by decide) (gx_rf_j (gx_el_j hu0 hi_4) 11) fl_Ro_87 d_Ro_nextDue_43 ?_
            refine lv_aload_n hx hb d_Ro_nextDue_46 rfl (lv_at hl 2 rfl) ?_
            refine gx_getI G hI cl_Jb (gx_ci_j hg_11) 11 (by decide) (gx_rf_j hg_11 11) fl_Ro_87 d_Ro_nextDue_47 ?_
            refine lv_icmp_ge (tgt := 56) hx hb d_Ro_nextDue_50 (by decide) (fun c_12 => ?_) (fun c_12 => ?_)
            · replace hf := (if_pos c_12).symm.trans hf
              refine lv_iinc (v := v3 + 1) (lv' := [(3, .int (v3 + 1)), (4, .ref (adr (gx_el (u0 + 17) v3.toNatClampNeg))), (2, .ref (adr o_10)), (0, .ref (adr u0)), (1, .int u1)]) hx hb d_Ro_nextDue_56 hl (k := 1) rfl rfl (by decide) rfl (fun ls hl => ?_)
              refine lv_goto (tgt := 4) hx hb d_Ro_nextDue_59 (by decide) ?_
              exact ih (v3 + 1) (some o_10) σ_5 H locs ls hf hI (lv_sub hl [0, 2, 3, 4] rfl)
            · replace hf := (if_neg c_12).symm.trans hf
              refine lv_aload hx hb d_Ro_nextDue_53 (lv_at hl 0 rfl) ?_
              refine lv_astore_n (i := 2) (lv' := [(2, .ref (adr (gx_el (u0 + 17) v3.toNatClampNeg))), (4, .ref (adr (gx_el (u0 + 17) v3.toNatClampNeg))), (3, .int v3), (0, .ref (adr u0)), (1, .int u1)]) hx hb d_Ro_nextDue_55 rfl hl (by decide) rfl (fun ls hl => ?_)
              refine lv_iinc (v := v3 + 1) (lv' := [(3, .int (v3 + 1)), (2, .ref (adr (gx_el (u0 + 17) v3.toNatClampNeg))), (4, .ref (adr (gx_el (u0 + 17) v3.toNatClampNeg))), (0, .ref (adr u0)), (1, .int u1)]) hx hb d_Ro_nextDue_56 hl (k := 2) rfl rfl (by decide) rfl (fun ls hl => ?_)
              refine lv_goto (tgt := 4) hx hb d_Ro_nextDue_59 (by decide) ?_
              exact ih (v3 + 1) (some (gx_el (u0 + 17) v3.toNatClampNeg)) σ_5 H locs ls hf hI (lv_sub hl [0, 1, 3, 4] rfl)
set_option maxHeartbeats 4000000 in
set_option maxRecDepth 100000 in
theorem ct_Ro_nextDue (l : Launch) (D : va_G) (dA : Nat → ClassId) (adr : Nat → Nat) (A : Nat → Prop) (hA : gx_A A adr) (N : Nat) (o0 : Nat) (p0 : Int32) (σ : gx_M) (r : Option Nat) (σ' : gx_M) (hf : fn_Ro_nextDue N o0 p0 σ = some (r, σ')) : Met l y_Ro_nextDue w_Ro_nextDue rm_Ro_nextDue (gx_Pc D dA adr σ [.ref (adr o0), .int p0]) (gx_Q D dA adr A (some (va_rf (Option.map adr r))) σ') 0 0 A := by
  refine Met.ofW (cc := b_Ro_nextDue) (maxL := 5) (ret := some (.object R_Jb)) (by decide) rfl ?_
  intro p e s m args below meth c s₁ B hml hv
  obtain ⟨rfl, hP, hK⟩ := hv
  have hx := B.exec
  have hb := B.bytes
  have hr := B.returns
  have hlocks := B.notSynchronized
  have ht : ∀ w ∈ gx_tb, w.before _ s = true := fun w h => atoms_spec (ws := w_Ro_nextDue) B.pre w (List.mem_cons_of_mem _ h)
  have hown : s.vm.findClass R_Ro = some m.cls := findClass_of_methodNamed B.named
  have G : gx_G p m c b_Ro_nextDue 5 s _ gx_tb R_Ro D dA := ⟨⟨hx, hb, hml, hown, ht⟩, hK⟩
  have hI : gx_I D dA adr A s.heap σ s.heap [] := ⟨hP, va_S.rf⟩
  have hl := lv_entry ([.ref (adr o0), .int p0]) (n := 5) (Nat.le_of_ble_eq_true rfl)
  rw [lg_entry_eq]
  generalize (lg_sl ([.ref (adr o0), .int p0]) ++ List.replicate (5 - (lg_sl ([.ref (adr o0), .int p0])).length) Slot.unset).toArray = ls at hl ⊢
  have hl : lv_has ls 5 [(0, .ref (adr o0)), (1, .int p0)] := hl
  rw [fn_Ro_nextDue] at hf
  obtain ⟨ho0, hf⟩ := gx_gd hf
  refine lv_null hx hb d_Ro_nextDue_0 ?_
  refine lv_astore_nN (i := 2) (lv' := [(2, .null), (0, .ref (adr o0)), (1, .int p0)]) hx hb d_Ro_nextDue_1 rfl hl (by decide) rfl (fun ls hl => ?_)
  refine lv_iconst (v := 0) hx hb d_Ro_nextDue_2 (by decide) ?_
  refine lv_istore_n (i := 3) (lv' := [(3, .int ((0 : Int32))), (2, .null), (0, .ref (adr o0)), (1, .int p0)]) hx hb d_Ro_nextDue_3 rfl hl (by decide) rfl (fun ls hl => ?_)
  exact wl_Ro_nextDue_L4 G hr hlocks hA N _ o0 p0 ho0 N ((0 : Int32)) none σ _ _ ls hf hI (lv_sub hl [0, 1, 2, 3] rfl)
def fn_Ro_settleDue_L2 (N : Nat) (u0 : Nat) (u1 : Int32) : Nat → Int32 → gx_M → Option (Int32 × gx_M)
  | 0, _, _ => none
  | n + 1, v2, σ => if (σ u0 1) ≤ v2 then (some (σ u0 1, σ)) else (gx_bd (fn_Ro_nextDue N u0 u1 σ) (fun x_4 σ_2 => gx_mt x_4 (some (v2, σ_2)) (fun o_5 => if 42 ≤ o_5 ∧ o_5 < 722 then (if (σ_2 o_5 10) = ((2 : Int32)) then (gx_bv (fn_Ro_failReserved N u0 o_5 u1 σ_2) (fun σ_10 => fn_Ro_settleDue_L2 N u0 u1 n (v2 + 1) σ_10)) else (gx_bv (fn_Ro_enter N u0 o_5 ((1 : Int32)) σ_2) (fun σ_8 => fn_Ro_settleDue_L2 N u0 u1 n (v2 + 1) σ_8))) else none)))
def fn_Ro_settleDue (N : Nat) (o0 : Nat) (p0 : Int32) (σ : gx_M) : Option (Int32 × gx_M) := if 8 ≤ o0 ∧ o0 < 25 then (fn_Ro_settleDue_L2 N o0 p0 N ((0 : Int32)) σ) else none
set_option maxHeartbeats 4000000 in
set_option maxRecDepth 100000 in
theorem wl_Ro_settleDue_L2 {p : Program} {l : Launch} {e : Env} {s : State} {m : MethodId} {args : Array Value} {below : List Frame} {meth : Method} {c : Code} {D : va_G} {dA : Nat → ClassId} {adr : Nat → Nat} {A : Nat → Prop} (G : gx_G p m c b_Ro_settleDue 4 s args gx_tb R_Ro D dA) (hr : meth.sig.returnType = some .int) (hlocks : meth.locks = false) (hA : gx_A A adr) (N : Nat) (res : Int32 × gx_M) (u0 : Nat) (u1 : Int32) (hu0 : 8 ≤ u0 ∧ u0 < 25) : ∀ (n : Nat) (v2 : Int32) (σ : gx_M) (H : Heap) (locs : List Loc) (ls : Array Slot), fn_Ro_settleDue_L2 N u0 u1 n v2 σ = some res → gx_I D dA adr A s.heap σ H locs → lv_has ls 4 [(2, .int v2), (0, .ref (adr u0)), (1, .int u1)] → W p l e (headSpec w_Ro_settleDue rm_Ro_settleDue).room s m args below meth c H locs 0 0 (MQ below (gx_Q D dA adr A (some (.int res.1)) res.2) args s 0 0 A) (F0 m 2 ls []) := by
  obtain ⟨⟨hx, hb, hml, hown, ht⟩, hK⟩ := id G
  intro n
  induction n with
  | zero =>
    intro v2 σ H locs ls hf
    cases hf
  | succ n ih =>
    intro v2 σ H locs ls hf hI hl
    rw [fn_Ro_settleDue_L2] at hf
    refine lv_iload_n hx hb d_Ro_settleDue_2 rfl (lv_at hl 0 rfl) ?_
    refine lv_aload_n hx hb d_Ro_settleDue_3 rfl (lv_at hl 1 rfl) ?_
    refine gx_getI G hI cl_Ro (gx_ci_r hu0) 1 (by decide) (gx_rf_r hu0 (by decide)) fl_Ro_20 d_Ro_settleDue_4 ?_
    refine lv_icmp_ge (tgt := 51) hx hb d_Ro_settleDue_7 (by decide) (fun c_1 => ?_) (fun c_1 => ?_)
    · replace hf := (if_pos c_1).symm.trans hf
      refine lv_aload_n hx hb d_Ro_settleDue_51 rfl (lv_at hl 1 rfl) ?_
      refine gx_getI G hI cl_Ro (gx_ci_r hu0) 1 (by decide) (gx_rf_r hu0 (by decide)) fl_Ro_20 d_Ro_settleDue_52 ?_
      cases hf
      exact W.iret hx hb hr (gx_F hI) hI.2.2.2 d_Ro_settleDue_55
    · replace hf := (if_neg c_1).symm.trans hf
      refine lv_aload_n hx hb d_Ro_settleDue_10 rfl (lv_at hl 1 rfl) ?_
      refine lv_iload_n hx hb d_Ro_settleDue_11 rfl (lv_at hl 2 rfl) ?_
      obtain ⟨x_4, σ_2, hc_3, hf⟩ := gx_bde hf
      rcases x_4 with _ | o_5
      · replace hf := gx_mtn hf
        refine gx_go (va_runV (As := [.int u1]) (rest := []) G.1 (ct_Ro_nextDue l D dA adr A hA N u0 u1 σ none σ_2 hc_3) (cwV 1 ht gi_Ro_76 rfl rfl rfl (by decide +kernel) ⟨Nat.le_of_ble_eq_true rfl, Nat.le_of_ble_eq_true rfl⟩) (gx_preV G hI cl_Ro (gx_ci_r hu0)) rfl rfl hl.1 rfl (lv_room (Nat.le_of_ble_eq_true rfl)) d_Ro_settleDue_12 ⟨Nat.zero_le _, Nat.zero_le _⟩) hI (st1 := [.null]) rfl (fun H locs hI => ?_)
        refine lv_astore_nN (i := 3) (lv' := [(3, .null), (2, .int v2), (0, .ref (adr u0)), (1, .int u1)]) hx hb d_Ro_settleDue_15 rfl hl (by decide) rfl (fun ls hl => ?_)
        refine lv_aload_nN hx hb d_Ro_settleDue_16 rfl (lv_at hl 0 rfl) ?_
        refine lv_ifnonnullN hx hb d_Ro_settleDue_17 ?_
        refine lv_iload_n hx hb d_Ro_settleDue_20 rfl (lv_at hl 1 rfl) ?_
        cases hf
        exact W.iret hx hb hr (gx_F hI) hI.2.2.2 d_Ro_settleDue_21
      · replace hf := gx_mts hf
        obtain ⟨hg_6, hf⟩ := gx_gd hf
        refine gx_go (va_runV (As := [.int u1]) (rest := []) G.1 (ct_Ro_nextDue l D dA adr A hA N u0 u1 σ (some o_5) σ_2 hc_3) (cwV 1 ht gi_Ro_76 rfl rfl rfl (by decide +kernel) ⟨Nat.le_of_ble_eq_true rfl, Nat.le_of_ble_eq_true rfl⟩) (gx_preV G hI cl_Ro (gx_ci_r hu0)) rfl rfl hl.1 rfl (lv_room (Nat.le_of_ble_eq_true rfl)) d_Ro_settleDue_12 ⟨Nat.zero_le _, Nat.zero_le _⟩) hI (st1 := [.ref (adr o_5)]) rfl (fun H locs hI => ?_)
        refine lv_astore_n (i := 3) (lv' := [(3, .ref (adr o_5)), (2, .int v2), (0, .ref (adr u0)), (1, .int u1)]) hx hb d_Ro_settleDue_15 rfl hl (by decide) rfl (fun ls hl => ?_)
        refine lv_aload_n hx hb d_Ro_settleDue_16 rfl (lv_at hl 0 rfl) ?_
        refine lv_ifnonnull (tgt := 22) hx hb d_Ro_settleDue_17 (by decide) ?_
        refine lv_aload_n hx hb d_Ro_settleDue_22 rfl (lv_at hl 0 rfl) ?_
        refine gx_getI G hI cl_Jb (gx_ci_j hg_6) 10 (by decide) (gx_rf_j hg_6 10) fl_Ro_35 d_Ro_settleDue_23 ?_
        refine lv_iconst (v := 2) hx hb d_Ro_settleDue_26 (by decide) ?_
        refine lv_icmp_ne (tgt := 39) hx hb d_Ro_settleDue_27 (by decide) (fun c_7 => ?_) (fun c_7 => ?_)
        · replace hf := (if_neg c_7).symm.trans hf
          refine lv_aload_n hx hb d_Ro_settleDue_39 rfl (lv_at hl 2 rfl) ?_
          refine lv_aload_n hx hb d_Ro_settleDue_40 rfl (lv_at hl 0 rfl) ?_
          refine lv_iconst (v := 1) hx hb d_Ro_settleDue_41 (by decide) ?_
          obtain ⟨σ_8, hc_9, hf⟩ := gx_bve hf
          refine gx_go (va_runV (As := [.ref (adr o_5), .int ((1 : Int32))]) (rest := []) G.1 (ct_Ro_enter l D dA adr A hA N u0 o_5 ((1 : Int32)) σ_2 σ_8 hc_9) (cwV 2 ht gi_Ro_48 rfl rfl rfl (by decide +kernel) ⟨Nat.le_of_ble_eq_true rfl, Nat.le_of_ble_eq_true rfl⟩) (gx_preV G hI cl_Ro (gx_ci_r hu0)) rfl rfl hl.1 rfl (lv_room (Nat.le_of_ble_eq_true rfl)) d_Ro_settleDue_42 ⟨Nat.zero_le _, Nat.zero_le _⟩) hI (st1 := []) rfl (fun H locs hI => ?_)
          refine lv_iinc (v := v2 + 1) (lv' := [(2, .int (v2 + 1)), (3, .ref (adr o_5)), (0, .ref (adr u0)), (1, .int u1)]) hx hb d_Ro_settleDue_45 hl (k := 1) rfl rfl (by decide) rfl (fun ls hl => ?_)
          refine lv_goto (tgt := 2) hx hb d_Ro_settleDue_48 (by decide) ?_
          exact ih (v2 + 1) σ_8 H locs ls hf hI (lv_sub hl [0, 2, 3] rfl)
        · replace hf := (if_pos c_7).symm.trans hf
          refine lv_aload_n hx hb d_Ro_settleDue_30 rfl (lv_at hl 2 rfl) ?_
          refine lv_aload_n hx hb d_Ro_settleDue_31 rfl (lv_at hl 0 rfl) ?_
          refine lv_iload_n hx hb d_Ro_settleDue_32 rfl (lv_at hl 3 rfl) ?_
          obtain ⟨σ_10, hc_11, hf⟩ := gx_bve hf
          refine gx_go (va_runV (As := [.ref (adr o_5), .int u1]) (rest := []) G.1 (ct_Ro_failReserved l D dA adr A hA N u0 o_5 u1 σ_2 σ_10 hc_11) (cwV 2 ht gi_Ro_80 rfl rfl rfl (by decide +kernel) ⟨Nat.le_of_ble_eq_true rfl, Nat.le_of_ble_eq_true rfl⟩) (gx_preV G hI cl_Ro (gx_ci_r hu0)) rfl rfl hl.1 rfl (lv_room (Nat.le_of_ble_eq_true rfl)) d_Ro_settleDue_33 ⟨Nat.zero_le _, Nat.zero_le _⟩) hI (st1 := []) rfl (fun H locs hI => ?_)
          refine lv_goto (tgt := 45) hx hb d_Ro_settleDue_36 (by decide) ?_
          refine lv_iinc (v := v2 + 1) (lv' := [(2, .int (v2 + 1)), (3, .ref (adr o_5)), (0, .ref (adr u0)), (1, .int u1)]) hx hb d_Ro_settleDue_45 hl (k := 1) rfl rfl (by decide) rfl (fun ls hl => ?_)
          refine lv_goto (tgt := 2) hx hb d_Ro_settleDue_48 (by decide) ?_
          exact ih (v2 + 1) σ_10 H locs ls hf hI (lv_sub hl [0, 2, 3] rfl)
set_option maxHeartbeats 4000000 in
set_option maxRecDepth 100000 in
theorem ct_Ro_settleDue (l : Launch) (D : va_G) (dA : Nat → ClassId) (adr : Nat → Nat) (A : Nat → Prop) (hA : gx_A A adr) (N : Nat) (o0 : Nat) (p0 : Int32) (σ : gx_M) (r : Int32) (σ' : gx_M) (hf : fn_Ro_settleDue N o0 p0 σ = some (r, σ')) : Met l y_Ro_settleDue w_Ro_settleDue rm_Ro_settleDue (gx_Pc D dA adr σ [.ref (adr o0), .int p0]) (gx_Q D dA adr A (some (.int r)) σ') 0 0 A := by
  refine Met.ofW (cc := b_Ro_settleDue) (maxL := 4) (ret := some .int) (by decide) rfl ?_
  intro p e s m args below meth c s₁ B hml hv
  obtain ⟨rfl, hP, hK⟩ := hv
  have hx := B.exec
  have hb := B.bytes
  have hr := B.returns
  have hlocks := B.notSynchronized
  have ht : ∀ w ∈ gx_tb, w.before _ s = true := fun w h => atoms_spec (ws := w_Ro_settleDue) B.pre w (List.mem_cons_of_mem _ h)
  have hown : s.vm.findClass R_Ro = some m.cls := findClass_of_methodNamed B.named
  have G : gx_G p m c b_Ro_settleDue 4 s _ gx_tb R_Ro D dA := ⟨⟨hx, hb, hml, hown, ht⟩, hK⟩
  have hI : gx_I D dA adr A s.heap σ s.heap [] := ⟨hP, va_S.rf⟩
  have hl := lv_entry ([.ref (adr o0), .int p0]) (n := 4) (Nat.le_of_ble_eq_true rfl)
  rw [lg_entry_eq]
  generalize (lg_sl ([.ref (adr o0), .int p0]) ++ List.replicate (4 - (lg_sl ([.ref (adr o0), .int p0])).length) Slot.unset).toArray = ls at hl ⊢
  have hl : lv_has ls 4 [(0, .ref (adr o0)), (1, .int p0)] := hl
  rw [fn_Ro_settleDue] at hf
  obtain ⟨ho0, hf⟩ := gx_gd hf
  refine lv_iconst (v := 0) hx hb d_Ro_settleDue_0 (by decide) ?_
  refine lv_istore_n (i := 2) (lv' := [(2, .int ((0 : Int32))), (0, .ref (adr o0)), (1, .int p0)]) hx hb d_Ro_settleDue_1 rfl hl (by decide) rfl (fun ls hl => ?_)
  exact wl_Ro_settleDue_L2 G hr hlocks hA N _ o0 p0 ho0 N ((0 : Int32)) σ _ _ ls hf hI (lv_sub hl [0, 1, 2] rfl)
def fn_Ro_hasLiveKey_L9 (N : Nat) (u0 : Nat) (u1 : Int32) : Nat → Int32 → gx_M → Option (Int32 × gx_M)
  | 0, _, _ => none
  | n + 1, v2, σ => if (σ u0 1) ≤ v2 then (some ((0 : Int32), σ)) else (if 0 ≤ v2 ∧ v2 < 40 then (if (σ (gx_el (u0 + 17) v2.toNatClampNeg) 5) = u1 then (if 0 ≤ v2 ∧ v2 < 40 then (gx_bd (fn_Jb_isLive N (gx_el (u0 + 17) v2.toNatClampNeg) σ) (fun r_8 σ_6 => if r_8 = 0 then (fn_Ro_hasLiveKey_L9 N u0 u1 n (v2 + 1) σ_6) else (some ((1 : Int32), σ_6)))) else none) else (fn_Ro_hasLiveKey_L9 N u0 u1 n (v2 + 1) σ)) else none)
def fn_Ro_hasLiveKey (N : Nat) (o0 : Nat) (p0 : Int32) (σ : gx_M) : Option (Int32 × gx_M) := if 8 ≤ o0 ∧ o0 < 25 then (if p0 = ((-1 : Int32)) then (some ((0 : Int32), σ)) else (fn_Ro_hasLiveKey_L9 N o0 p0 N ((0 : Int32)) σ)) else none
set_option maxHeartbeats 4000000 in
set_option maxRecDepth 100000 in
theorem wl_Ro_hasLiveKey_L9 {p : Program} {l : Launch} {e : Env} {s : State} {m : MethodId} {args : Array Value} {below : List Frame} {meth : Method} {c : Code} {D : va_G} {dA : Nat → ClassId} {adr : Nat → Nat} {A : Nat → Prop} (G : gx_G p m c b_Ro_hasLiveKey 3 s args gx_tb R_Ro D dA) (hr : meth.sig.returnType = some .boolean) (hlocks : meth.locks = false) (hA : gx_A A adr) (N : Nat) (res : Int32 × gx_M) (u0 : Nat) (u1 : Int32) (hu0 : 8 ≤ u0 ∧ u0 < 25) : ∀ (n : Nat) (v2 : Int32) (σ : gx_M) (H : Heap) (locs : List Loc) (ls : Array Slot), fn_Ro_hasLiveKey_L9 N u0 u1 n v2 σ = some res → gx_I D dA adr A s.heap σ H locs → lv_has ls 3 [(2, .int v2), (0, .ref (adr u0)), (1, .int u1)] → W p l e (headSpec w_Ro_hasLiveKey rm_Ro_hasLiveKey).room s m args below meth c H locs 0 0 (MQ below (gx_Q D dA adr A (some (.int res.1)) res.2) args s 0 0 A) (F0 m 9 ls []) := by
  obtain ⟨⟨hx, hb, hml, hown, ht⟩, hK⟩ := id G
  intro n
  induction n with
  | zero =>
    intro v2 σ H locs ls hf
    cases hf
  | succ n ih =>
    intro v2 σ H locs ls hf hI hl
    rw [fn_Ro_hasLiveKey_L9] at hf
    refine lv_iload_n hx hb d_Ro_hasLiveKey_9 rfl (lv_at hl 0 rfl) ?_
    refine lv_aload_n hx hb d_Ro_hasLiveKey_10 rfl (lv_at hl 1 rfl) ?_
    refine gx_getI G hI cl_Ro (gx_ci_r hu0) 1 (by decide) (gx_rf_r hu0 (by decide)) fl_Ro_20 d_Ro_hasLiveKey_11 ?_
    refine lv_icmp_ge (tgt := 50) hx hb d_Ro_hasLiveKey_14 (by decide) (fun c_2 => ?_) (fun c_2 => ?_)
    · replace hf := (if_pos c_2).symm.trans hf
      refine lv_iconst (v := 0) hx hb d_Ro_hasLiveKey_50 (by decide) ?_
      cases hf
      exact W.zret (v := (0 : Int32)) hx hb hr (by decide) (gx_F hI) hI.2.2.2 d_Ro_hasLiveKey_51
    · replace hf := (if_neg c_2).symm.trans hf
      refine lv_aload_n hx hb d_Ro_hasLiveKey_17 rfl (lv_at hl 1 rfl) ?_
      refine gx_getR (o' := u0 + 17) G hI cl_Ro (gx_ci_r hu0) 0 (by decide) (gx_rf_r0 hu0) fl_Ro_11 d_Ro_hasLiveKey_18 ?_
      refine lv_iload_n hx hb d_Ro_hasLiveKey_21 rfl (lv_at hl 0 rfl) ?_
      obtain ⟨hi_3, hf⟩ := gx_gd hf
      refine gx_aldJ G hI hu0 hi_3 d_Ro_hasLiveKey_22 ?_
      refine gx_getI G hI cl_Jb (gx_ci_j (gx_el_j hu0 hi_3)) 5 (by decide) (gx_rf_j (gx_el_j hu0 hi_3) 5) fl_Ro_90 d_Ro_hasLiveKey_23 ?_
      refine lv_iload_n hx hb d_Ro_hasLiveKey_26 rfl (lv_at hl 2 rfl) ?_
      refine lv_icmp_ne (tgt := 44) hx hb d_Ro_hasLiveKey_27 (by decide) (fun c_4 => ?_) (fun c_4 => ?_)
      · replace hf := (if_neg c_4).symm.trans hf
        refine lv_iinc (v := v2 + 1) (lv' := [(2, .int (v2 + 1)), (0, .ref (adr u0)), (1, .int u1)]) hx hb d_Ro_hasLiveKey_44 hl (k := 0) rfl rfl (by decide) rfl (fun ls hl => ?_)
        refine lv_goto (tgt := 9) hx hb d_Ro_hasLiveKey_47 (by decide) ?_
        exact ih (v2 + 1) σ H locs ls hf hI (lv_sub hl [0, 1, 2] rfl)
      · replace hf := (if_pos c_4).symm.trans hf
        refine lv_aload_n hx hb d_Ro_hasLiveKey_30 rfl (lv_at hl 1 rfl) ?_
        refine gx_getR (o' := u0 + 17) G hI cl_Ro (gx_ci_r hu0) 0 (by decide) (gx_rf_r0 hu0) fl_Ro_11 d_Ro_hasLiveKey_31 ?_
        refine lv_iload_n hx hb d_Ro_hasLiveKey_34 rfl (lv_at hl 0 rfl) ?_
        obtain ⟨hi_5, hf⟩ := gx_gd hf
        refine gx_aldJ G hI hu0 hi_5 d_Ro_hasLiveKey_35 ?_
        obtain ⟨r_8, σ_6, hc_7, hf⟩ := gx_bde hf
        refine gx_go (va_runV (As := []) (rest := []) G.1 (ct_Jb_isLive l D dA adr A hA N (gx_el (u0 + 17) v2.toNatClampNeg) σ r_8 σ_6 hc_7) (cwV 0 ht gi_Ro_93 rfl rfl rfl (by decide +kernel) ⟨Nat.le_of_ble_eq_true rfl, Nat.le_of_ble_eq_true rfl⟩) (gx_preV G hI cl_Jb (gx_ci_j (gx_el_j hu0 hi_5))) rfl rfl hl.1 rfl (lv_room (Nat.le_of_ble_eq_true rfl)) d_Ro_hasLiveKey_36 ⟨Nat.zero_le _, Nat.zero_le _⟩) hI (st1 := [.int r_8]) rfl (fun H locs hI => ?_)
        refine lv_if_eq (tgt := 44) hx hb d_Ro_hasLiveKey_39 (by decide) (fun c_9 => ?_) (fun c_9 => ?_)
        · replace hf := (if_pos c_9).symm.trans hf
          refine lv_iinc (v := v2 + 1) (lv' := [(2, .int (v2 + 1)), (0, .ref (adr u0)), (1, .int u1)]) hx hb d_Ro_hasLiveKey_44 hl (k := 0) rfl rfl (by decide) rfl (fun ls hl => ?_)
          refine lv_goto (tgt := 9) hx hb d_Ro_hasLiveKey_47 (by decide) ?_
          exact ih (v2 + 1) σ_6 H locs ls hf hI (lv_sub hl [0, 1, 2] rfl)
        · replace hf := (if_neg c_9).symm.trans hf
          refine lv_iconst (v := 1) hx hb d_Ro_hasLiveKey_42 (by decide) ?_
          cases hf
          exact W.zret (v := (1 : Int32)) hx hb hr (by decide) (gx_F hI) hI.2.2.2 d_Ro_hasLiveKey_43
set_option maxHeartbeats 4000000 in
set_option maxRecDepth 100000 in
theorem ct_Ro_hasLiveKey (l : Launch) (D : va_G) (dA : Nat → ClassId) (adr : Nat → Nat) (A : Nat → Prop) (hA : gx_A A adr) (N : Nat) (o0 : Nat) (p0 : Int32) (σ : gx_M) (r : Int32) (σ' : gx_M) (hf : fn_Ro_hasLiveKey N o0 p0 σ = some (r, σ')) : Met l y_Ro_hasLiveKey w_Ro_hasLiveKey rm_Ro_hasLiveKey (gx_Pc D dA adr σ [.ref (adr o0), .int p0]) (gx_Q D dA adr A (some (.int r)) σ') 0 0 A := by
  refine Met.ofW (cc := b_Ro_hasLiveKey) (maxL := 3) (ret := some .boolean) (by decide) rfl ?_
  intro p e s m args below meth c s₁ B hml hv
  obtain ⟨rfl, hP, hK⟩ := hv
  have hx := B.exec
  have hb := B.bytes
  have hr := B.returns
  have hlocks := B.notSynchronized
  have ht : ∀ w ∈ gx_tb, w.before _ s = true := fun w h => atoms_spec (ws := w_Ro_hasLiveKey) B.pre w (List.mem_cons_of_mem _ h)
  have hown : s.vm.findClass R_Ro = some m.cls := findClass_of_methodNamed B.named
  have G : gx_G p m c b_Ro_hasLiveKey 3 s _ gx_tb R_Ro D dA := ⟨⟨hx, hb, hml, hown, ht⟩, hK⟩
  have hI : gx_I D dA adr A s.heap σ s.heap [] := ⟨hP, va_S.rf⟩
  have hl := lv_entry ([.ref (adr o0), .int p0]) (n := 3) (Nat.le_of_ble_eq_true rfl)
  rw [lg_entry_eq]
  generalize (lg_sl ([.ref (adr o0), .int p0]) ++ List.replicate (3 - (lg_sl ([.ref (adr o0), .int p0])).length) Slot.unset).toArray = ls at hl ⊢
  have hl : lv_has ls 3 [(0, .ref (adr o0)), (1, .int p0)] := hl
  rw [fn_Ro_hasLiveKey] at hf
  obtain ⟨ho0, hf⟩ := gx_gd hf
  refine lv_iload_n hx hb d_Ro_hasLiveKey_0 rfl (lv_at hl 1 rfl) ?_
  refine lv_iconst (v := (-1)) hx hb d_Ro_hasLiveKey_1 (by decide) ?_
  refine lv_icmp_ne (tgt := 7) hx hb d_Ro_hasLiveKey_2 (by decide) (fun c_1 => ?_) (fun c_1 => ?_)
  · replace hf := (if_neg c_1).symm.trans hf
    refine lv_iconst (v := 0) hx hb d_Ro_hasLiveKey_7 (by decide) ?_
    refine lv_istore_n (i := 2) (lv' := [(2, .int ((0 : Int32))), (0, .ref (adr o0)), (1, .int p0)]) hx hb d_Ro_hasLiveKey_8 rfl hl (by decide) rfl (fun ls hl => ?_)
    exact wl_Ro_hasLiveKey_L9 G hr hlocks hA N _ o0 p0 ho0 N ((0 : Int32)) σ _ _ ls hf hI (lv_sub hl [0, 1, 2] rfl)
  · replace hf := (if_pos c_1).symm.trans hf
    refine lv_iconst (v := 0) hx hb d_Ro_hasLiveKey_5 (by decide) ?_
    cases hf
    exact W.zret (v := (0 : Int32)) hx hb hr (by decide) (gx_F hI) hI.2.2.2 d_Ro_hasLiveKey_6
def fn_Ro_reservedBy_L2 (N : Nat) (u0 : Nat) (u1 : Int32) : Nat → Int32 → gx_M → Option (Option Nat × gx_M)
  | 0, _, _ => none
  | n + 1, v2, σ => if (σ u0 1) ≤ v2 then (some (none, σ)) else (if 0 ≤ v2 ∧ v2 < 40 then (if (σ (gx_el (u0 + 17) v2.toNatClampNeg) 10) = ((2 : Int32)) then (if 0 ≤ v2 ∧ v2 < 40 then (if (σ (gx_el (u0 + 17) v2.toNatClampNeg) 12) = u1 then (if 0 ≤ v2 ∧ v2 < 40 then (some (some (gx_el (u0 + 17) v2.toNatClampNeg), σ)) else none) else (fn_Ro_reservedBy_L2 N u0 u1 n (v2 + 1) σ)) else none) else (fn_Ro_reservedBy_L2 N u0 u1 n (v2 + 1) σ)) else none)
def fn_Ro_reservedBy (N : Nat) (o0 : Nat) (p0 : Int32) (σ : gx_M) : Option (Option Nat × gx_M) := if 8 ≤ o0 ∧ o0 < 25 then (fn_Ro_reservedBy_L2 N o0 p0 N ((0 : Int32)) σ) else none
set_option maxHeartbeats 4000000 in
set_option maxRecDepth 100000 in
theorem wl_Ro_reservedBy_L2 {p : Program} {l : Launch} {e : Env} {s : State} {m : MethodId} {args : Array Value} {below : List Frame} {meth : Method} {c : Code} {D : va_G} {dA : Nat → ClassId} {adr : Nat → Nat} {A : Nat → Prop} (G : gx_G p m c b_Ro_reservedBy 3 s args gx_tb R_Ro D dA) (hr : meth.sig.returnType = some (.object R_Jb)) (hlocks : meth.locks = false) (hA : gx_A A adr) (N : Nat) (res : Option Nat × gx_M) (u0 : Nat) (u1 : Int32) (hu0 : 8 ≤ u0 ∧ u0 < 25) : ∀ (n : Nat) (v2 : Int32) (σ : gx_M) (H : Heap) (locs : List Loc) (ls : Array Slot), fn_Ro_reservedBy_L2 N u0 u1 n v2 σ = some res → gx_I D dA adr A s.heap σ H locs → lv_has ls 3 [(2, .int v2), (0, .ref (adr u0)), (1, .int u1)] → W p l e (headSpec w_Ro_reservedBy rm_Ro_reservedBy).room s m args below meth c H locs 0 0 (MQ below (gx_Q D dA adr A (some (va_rf (Option.map adr res.1))) res.2) args s 0 0 A) (F0 m 2 ls []) := by
  obtain ⟨⟨hx, hb, hml, hown, ht⟩, hK⟩ := id G
  intro n
  induction n with
  | zero =>
    intro v2 σ H locs ls hf
    cases hf
  | succ n ih =>
    intro v2 σ H locs ls hf hI hl
    rw [fn_Ro_reservedBy_L2] at hf
    refine lv_iload_n hx hb d_Ro_reservedBy_2 rfl (lv_at hl 0 rfl) ?_
    refine lv_aload_n hx hb d_Ro_reservedBy_3 rfl (lv_at hl 1 rfl) ?_
    refine gx_getI G hI cl_Ro (gx_ci_r hu0) 1 (by decide) (gx_rf_r hu0 (by decide)) fl_Ro_20 d_Ro_reservedBy_4 ?_
    refine lv_icmp_ge (tgt := 49) hx hb d_Ro_reservedBy_7 (by decide) (fun c_1 => ?_) (fun c_1 => ?_)
    · replace hf := (if_pos c_1).symm.trans hf
      refine lv_null hx hb d_Ro_reservedBy_49 ?_
      cases hf
      exact W.aret (v := .null) hx hb hr (Or.inl ⟨_, rfl⟩) (Or.inl rfl) (gx_F hI) hI.2.2.2 d_Ro_reservedBy_50
    · replace hf := (if_neg c_1).symm.trans hf
      refine lv_aload_n hx hb d_Ro_reservedBy_10 rfl (lv_at hl 1 rfl) ?_
      refine gx_getR (o' := u0 + 17) G hI cl_Ro (gx_ci_r hu0) 0 (by decide) (gx_rf_r0 hu0) fl_Ro_11 d_Ro_reservedBy_11 ?_
      refine lv_iload_n hx hb d_Ro_reservedBy_14 rfl (lv_at hl 0 rfl) ?_
      obtain ⟨hi_2, hf⟩ := gx_gd hf
      refine gx_aldJ G hI hu0 hi_2 d_Ro_reservedBy_15 ?_
      refine gx_getI G hI cl_Jb (gx_ci_j (gx_el_j hu0 hi_2)) 10 (by decide) (gx_rf_j (gx_el_j hu0 hi_2) 10) fl_Ro_35 d_Ro_reservedBy_16 ?_
      refine lv_iconst (v := 2) hx hb d_Ro_reservedBy_19 (by decide) ?_
      refine lv_icmp_ne (tgt := 43) hx hb d_Ro_reservedBy_20 (by decide) (fun c_3 => ?_) (fun c_3 => ?_)
      · replace hf := (if_neg c_3).symm.trans hf
        refine lv_iinc (v := v2 + 1) (lv' := [(2, .int (v2 + 1)), (0, .ref (adr u0)), (1, .int u1)]) hx hb d_Ro_reservedBy_43 hl (k := 0) rfl rfl (by decide) rfl (fun ls hl => ?_)
        refine lv_goto (tgt := 2) hx hb d_Ro_reservedBy_46 (by decide) ?_
        exact ih (v2 + 1) σ H locs ls hf hI (lv_sub hl [0, 1, 2] rfl)
      · replace hf := (if_pos c_3).symm.trans hf
        refine lv_aload_n hx hb d_Ro_reservedBy_23 rfl (lv_at hl 1 rfl) ?_
        refine gx_getR (o' := u0 + 17) G hI cl_Ro (gx_ci_r hu0) 0 (by decide) (gx_rf_r0 hu0) fl_Ro_11 d_Ro_reservedBy_24 ?_
        refine lv_iload_n hx hb d_Ro_reservedBy_27 rfl (lv_at hl 0 rfl) ?_
        obtain ⟨hi_4, hf⟩ := gx_gd hf
        refine gx_aldJ G hI hu0 hi_4 d_Ro_reservedBy_28 ?_
        refine gx_getI G hI cl_Jb (gx_ci_j (gx_el_j hu0 hi_4)) 12 (by decide) (gx_rf_j (gx_el_j hu0 hi_4) 12) fl_Ro_96 d_Ro_reservedBy_29 ?_
        refine lv_iload_n hx hb d_Ro_reservedBy_32 rfl (lv_at hl 2 rfl) ?_
        refine lv_icmp_ne (tgt := 43) hx hb d_Ro_reservedBy_33 (by decide) (fun c_5 => ?_) (fun c_5 => ?_)
        · replace hf := (if_neg c_5).symm.trans hf
          refine lv_iinc (v := v2 + 1) (lv' := [(2, .int (v2 + 1)), (0, .ref (adr u0)), (1, .int u1)]) hx hb d_Ro_reservedBy_43 hl (k := 0) rfl rfl (by decide) rfl (fun ls hl => ?_)
          refine lv_goto (tgt := 2) hx hb d_Ro_reservedBy_46 (by decide) ?_
          exact ih (v2 + 1) σ H locs ls hf hI (lv_sub hl [0, 1, 2] rfl)
        · replace hf := (if_pos c_5).symm.trans hf
          refine lv_aload_n hx hb d_Ro_reservedBy_36 rfl (lv_at hl 1 rfl) ?_
          refine gx_getR (o' := u0 + 17) G hI cl_Ro (gx_ci_r hu0) 0 (by decide) (gx_rf_r0 hu0) fl_Ro_11 d_Ro_reservedBy_37 ?_
          refine lv_iload_n hx hb d_Ro_reservedBy_40 rfl (lv_at hl 0 rfl) ?_
          obtain ⟨hi_6, hf⟩ := gx_gd hf
          refine gx_aldJ G hI hu0 hi_6 d_Ro_reservedBy_41 ?_
          cases hf
          exact W.aret hx hb hr (Or.inl ⟨_, rfl⟩) (Or.inr ⟨_, rfl⟩) (gx_F hI) hI.2.2.2 d_Ro_reservedBy_42
set_option maxHeartbeats 4000000 in
set_option maxRecDepth 100000 in
theorem ct_Ro_reservedBy (l : Launch) (D : va_G) (dA : Nat → ClassId) (adr : Nat → Nat) (A : Nat → Prop) (hA : gx_A A adr) (N : Nat) (o0 : Nat) (p0 : Int32) (σ : gx_M) (r : Option Nat) (σ' : gx_M) (hf : fn_Ro_reservedBy N o0 p0 σ = some (r, σ')) : Met l y_Ro_reservedBy w_Ro_reservedBy rm_Ro_reservedBy (gx_Pc D dA adr σ [.ref (adr o0), .int p0]) (gx_Q D dA adr A (some (va_rf (Option.map adr r))) σ') 0 0 A := by
  refine Met.ofW (cc := b_Ro_reservedBy) (maxL := 3) (ret := some (.object R_Jb)) (by decide) rfl ?_
  intro p e s m args below meth c s₁ B hml hv
  obtain ⟨rfl, hP, hK⟩ := hv
  have hx := B.exec
  have hb := B.bytes
  have hr := B.returns
  have hlocks := B.notSynchronized
  have ht : ∀ w ∈ gx_tb, w.before _ s = true := fun w h => atoms_spec (ws := w_Ro_reservedBy) B.pre w (List.mem_cons_of_mem _ h)
  have hown : s.vm.findClass R_Ro = some m.cls := findClass_of_methodNamed B.named
  have G : gx_G p m c b_Ro_reservedBy 3 s _ gx_tb R_Ro D dA := ⟨⟨hx, hb, hml, hown, ht⟩, hK⟩
  have hI : gx_I D dA adr A s.heap σ s.heap [] := ⟨hP, va_S.rf⟩
  have hl := lv_entry ([.ref (adr o0), .int p0]) (n := 3) (Nat.le_of_ble_eq_true rfl)
  rw [lg_entry_eq]
  generalize (lg_sl ([.ref (adr o0), .int p0]) ++ List.replicate (3 - (lg_sl ([.ref (adr o0), .int p0])).length) Slot.unset).toArray = ls at hl ⊢
  have hl : lv_has ls 3 [(0, .ref (adr o0)), (1, .int p0)] := hl
  rw [fn_Ro_reservedBy] at hf
  obtain ⟨ho0, hf⟩ := gx_gd hf
  refine lv_iconst (v := 0) hx hb d_Ro_reservedBy_0 (by decide) ?_
  refine lv_istore_n (i := 2) (lv' := [(2, .int ((0 : Int32))), (0, .ref (adr o0)), (1, .int p0)]) hx hb d_Ro_reservedBy_1 rfl hl (by decide) rfl (fun ls hl => ?_)
  exact wl_Ro_reservedBy_L2 G hr hlocks hA N _ o0 p0 ho0 N ((0 : Int32)) σ _ _ ls hf hI (lv_sub hl [0, 1, 2] rfl)
def fn_Ro_nextInLine_L5 (N : Nat) (u0 : Nat) (u1 : Int32) (u2 : Option Nat) : Nat → Int32 → Option Nat → gx_M → Option (Option Nat × gx_M)
  | 0, _, _, _ => none
  | n + 1, v4, v3, σ => if (σ u0 1) ≤ v4 then (gx_mt v3 (some (none, σ)) (fun o_2 => if 42 ≤ o_2 ∧ o_2 < 722 then (some (some o_2, σ)) else none)) else (if 0 ≤ v4 ∧ v4 < 40 then (if (σ (gx_el (u0 + 17) v4.toNatClampNeg) 10) = ((1 : Int32)) then (if (σ (gx_el (u0 + 17) v4.toNatClampNeg) 1) = u1 then (gx_mt u2 (gx_mt v3 (fn_Ro_nextInLine_L5 N u0 u1 u2 n (v4 + 1) (some (gx_el (u0 + 17) v4.toNatClampNeg)) σ) (fun o_9 => if 42 ≤ o_9 ∧ o_9 < 722 then (gx_bd (fn_Jb_standsBefore N (gx_el (u0 + 17) v4.toNatClampNeg) o_9 σ) (fun r_13 σ_11 => if r_13 = 0 then (fn_Ro_nextInLine_L5 N u0 u1 u2 n (v4 + 1) (some o_9) σ_11) else (fn_Ro_nextInLine_L5 N u0 u1 u2 n (v4 + 1) (some (gx_el (u0 + 17) v4.toNatClampNeg)) σ_11))) else none)) (fun o_7 => if 42 ≤ o_7 ∧ o_7 < 722 then (gx_bd (fn_Jb_standsBefore N o_7 (gx_el (u0 + 17) v4.toNatClampNeg) σ) (fun r_17 σ_15 => if r_17 = 0 then (fn_Ro_nextInLine_L5 N u0 u1 u2 n (v4 + 1) v3 σ_15) else (gx_mt v3 (fn_Ro_nextInLine_L5 N u0 u1 u2 n (v4 + 1) (some (gx_el (u0 + 17) v4.toNatClampNeg)) σ_15) (fun o_19 => if 42 ≤ o_19 ∧ o_19 < 722 then (gx_bd (fn_Jb_standsBefore N (gx_el (u0 + 17) v4.toNatClampNeg) o_19 σ_15) (fun r_23 σ_21 => if r_23 = 0 then (fn_Ro_nextInLine_L5 N u0 u1 u2 n (v4 + 1) (some o_19) σ_21) else (fn_Ro_nextInLine_L5 N u0 u1 u2 n (v4 + 1) (some (gx_el (u0 + 17) v4.toNatClampNeg)) σ_21))) else none)))) else none)) else (fn_Ro_nextInLine_L5 N u0 u1 u2 n (v4 + 1) v3 σ)) else (fn_Ro_nextInLine_L5 N u0 u1 u2 n (v4 + 1) v3 σ)) else none)
def fn_Ro_nextInLine (N : Nat) (o0 : Nat) (p0 : Int32) (x1 : Option Nat) (σ : gx_M) : Option (Option Nat × gx_M) := if 8 ≤ o0 ∧ o0 < 25 then (fn_Ro_nextInLine_L5 N o0 p0 x1 N ((0 : Int32)) none σ) else none
set_option maxHeartbeats 4000000 in
set_option maxRecDepth 100000 in
theorem wl_Ro_nextInLine_L5 {p : Program} {l : Launch} {e : Env} {s : State} {m : MethodId} {args : Array Value} {below : List Frame} {meth : Method} {c : Code} {D : va_G} {dA : Nat → ClassId} {adr : Nat → Nat} {A : Nat → Prop} (G : gx_G p m c b_Ro_nextInLine 6 s args gx_tb R_Ro D dA) (hr : meth.sig.returnType = some (.object R_Jb)) (hlocks : meth.locks = false) (hA : gx_A A adr) (N : Nat) (res : Option Nat × gx_M) (u0 : Nat) (u1 : Int32) (u2 : Option Nat) (hu0 : 8 ≤ u0 ∧ u0 < 25) : ∀ (n : Nat) (v4 : Int32) (v3 : Option Nat) (σ : gx_M) (H : Heap) (locs : List Loc) (ls : Array Slot), fn_Ro_nextInLine_L5 N u0 u1 u2 n v4 v3 σ = some res → gx_I D dA adr A s.heap σ H locs → lv_has ls 6 [(4, .int v4), (3, va_rf (Option.map adr v3)), (0, .ref (adr u0)), (1, .int u1), (2, va_rf (Option.map adr u2))] → W p l e (headSpec w_Ro_nextInLine rm_Ro_nextInLine).room s m args below meth c H locs 0 0 (MQ below (gx_Q D dA adr A (some (va_rf (Option.map adr res.1))) res.2) args s 0 0 A) (F0 m 5 ls []) := by
  obtain ⟨⟨hx, hb, hml, hown, ht⟩, hK⟩ := id G
  intro n
  induction n with
  | zero =>
    intro v4 v3 σ H locs ls hf
    cases hf
  | succ n ih =>
    intro v4 v3 σ H locs ls hf hI hl
    rw [fn_Ro_nextInLine_L5] at hf
    refine lv_iload hx hb d_Ro_nextInLine_5 (lv_at hl 0 rfl) ?_
    refine lv_aload_n hx hb d_Ro_nextInLine_7 rfl (lv_at hl 2 rfl) ?_
    refine gx_getI G hI cl_Ro (gx_ci_r hu0) 1 (by decide) (gx_rf_r hu0 (by decide)) fl_Ro_20 d_Ro_nextInLine_8 ?_
    refine lv_icmp_ge (tgt := 76) hx hb d_Ro_nextInLine_11 (by decide) (fun c_1 => ?_) (fun c_1 => ?_)
    · replace hf := (if_pos c_1).symm.trans hf
      rcases v3 with _ | o_2
      · replace hf := gx_mtn hf
        refine lv_aload_nN hx hb d_Ro_nextInLine_76 rfl (lv_at hl 1 rfl) ?_
        cases hf
        exact W.aret (v := .null) hx hb hr (Or.inl ⟨_, rfl⟩) (Or.inl rfl) (gx_F hI) hI.2.2.2 d_Ro_nextInLine_77
      · replace hf := gx_mts hf
        obtain ⟨hg_3, hf⟩ := gx_gd hf
        refine lv_aload_n hx hb d_Ro_nextInLine_76 rfl (lv_at hl 1 rfl) ?_
        cases hf
        exact W.aret hx hb hr (Or.inl ⟨_, rfl⟩) (Or.inr ⟨_, rfl⟩) (gx_F hI) hI.2.2.2 d_Ro_nextInLine_77
    · replace hf := (if_neg c_1).symm.trans hf
      refine lv_aload_n hx hb d_Ro_nextInLine_14 rfl (lv_at hl 2 rfl) ?_
      refine gx_getR (o' := u0 + 17) G hI cl_Ro (gx_ci_r hu0) 0 (by decide) (gx_rf_r0 hu0) fl_Ro_11 d_Ro_nextInLine_15 ?_
      refine lv_iload hx hb d_Ro_nextInLine_18 (lv_at hl 0 rfl) ?_
      obtain ⟨hi_4, hf⟩ := gx_gd hf
      refine gx_aldJ G hI hu0 hi_4 d_Ro_nextInLine_20 ?_
      refine lv_astore (i := 5) (lv' := [(5, .ref (adr (gx_el (u0 + 17) v4.toNatClampNeg))), (4, .int v4), (3, va_rf (Option.map adr v3)), (0, .ref (adr u0)), (1, .int u1), (2, va_rf (Option.map adr u2))]) hx hb d_Ro_nextInLine_21 hl (by decide) rfl (fun ls hl => ?_)
      refine lv_aload hx hb d_Ro_nextInLine_23 (lv_at hl 0 rfl) ?_
      refine gx_getI G hI cl_Jb (gx_ci_j (gx_el_j hu0 hi_4)) 10 (by decide) (gx_rf_j (gx_el_j hu0 hi_4) 10) fl_Ro_35 d_Ro_nextInLine_25 ?_
      refine lv_iconst (v := 1) hx hb d_Ro_nextInLine_28 (by decide) ?_
      refine lv_icmp_ne (tgt := 70) hx hb d_Ro_nextInLine_29 (by decide) (fun c_5 => ?_) (fun c_5 => ?_)
      · replace hf := (if_neg c_5).symm.trans hf
        refine lv_iinc (v := v4 + 1) (lv' := [(4, .int (v4 + 1)), (5, .ref (adr (gx_el (u0 + 17) v4.toNatClampNeg))), (3, va_rf (Option.map adr v3)), (0, .ref (adr u0)), (1, .int u1), (2, va_rf (Option.map adr u2))]) hx hb d_Ro_nextInLine_70 hl (k := 1) rfl rfl (by decide) (by simp [gx_cat, gx_rfs, gx_rfn]) (fun ls hl => ?_)
        refine lv_goto (tgt := 5) hx hb d_Ro_nextInLine_73 (by decide) ?_
        exact ih (v4 + 1) v3 σ H locs ls hf hI (lv_sub hl [0, 2, 3, 4, 5] rfl)
      · replace hf := (if_pos c_5).symm.trans hf
        refine lv_aload hx hb d_Ro_nextInLine_32 (lv_at hl 0 rfl) ?_
        refine gx_getI G hI cl_Jb (gx_ci_j (gx_el_j hu0 hi_4)) 1 (by decide) (gx_rf_j (gx_el_j hu0 hi_4) 1) fl_Ro_103 d_Ro_nextInLine_34 ?_
        refine lv_iload_n hx hb d_Ro_nextInLine_37 rfl (lv_at hl 4 rfl) ?_
        refine lv_icmp_ne (tgt := 70) hx hb d_Ro_nextInLine_38 (by decide) (fun c_6 => ?_) (fun c_6 => ?_)
        · replace hf := (if_neg c_6).symm.trans hf
          refine lv_iinc (v := v4 + 1) (lv' := [(4, .int (v4 + 1)), (5, .ref (adr (gx_el (u0 + 17) v4.toNatClampNeg))), (3, va_rf (Option.map adr v3)), (0, .ref (adr u0)), (1, .int u1), (2, va_rf (Option.map adr u2))]) hx hb d_Ro_nextInLine_70 hl (k := 1) rfl rfl (by decide) (by simp [gx_cat, gx_rfs, gx_rfn]) (fun ls hl => ?_)
          refine lv_goto (tgt := 5) hx hb d_Ro_nextInLine_73 (by decide) ?_
          exact ih (v4 + 1) v3 σ H locs ls hf hI (lv_sub hl [0, 2, 3, 4, 5] rfl)
        · replace hf := (if_pos c_6).symm.trans hf
          rcases u2 with _ | o_7
          · replace hf := gx_mtn hf
            refine lv_aload_nN hx hb d_Ro_nextInLine_41 rfl (lv_at hl 5 rfl) ?_
            refine lv_ifnullN (tgt := 54) hx hb d_Ro_nextInLine_42 (by decide) ?_
            rcases v3 with _ | o_9
            · replace hf := gx_mtn hf
              refine lv_aload_nN hx hb d_Ro_nextInLine_54 rfl (lv_at hl 2 rfl) ?_
              refine lv_ifnullN (tgt := 67) hx hb d_Ro_nextInLine_55 (by decide) ?_
              refine lv_aload hx hb d_Ro_nextInLine_67 (lv_at hl 0 rfl) ?_
              refine lv_astore_n (i := 3) (lv' := [(3, .ref (adr (gx_el (u0 + 17) v4.toNatClampNeg))), (5, .ref (adr (gx_el (u0 + 17) v4.toNatClampNeg))), (4, .int v4), (0, .ref (adr u0)), (1, .int u1), (2, .null)]) hx hb d_Ro_nextInLine_69 rfl hl (by decide) rfl (fun ls hl => ?_)
              refine lv_iinc (v := v4 + 1) (lv' := [(4, .int (v4 + 1)), (3, .ref (adr (gx_el (u0 + 17) v4.toNatClampNeg))), (5, .ref (adr (gx_el (u0 + 17) v4.toNatClampNeg))), (0, .ref (adr u0)), (1, .int u1), (2, .null)]) hx hb d_Ro_nextInLine_70 hl (k := 2) rfl rfl (by decide) rfl (fun ls hl => ?_)
              refine lv_goto (tgt := 5) hx hb d_Ro_nextInLine_73 (by decide) ?_
              exact ih (v4 + 1) (some (gx_el (u0 + 17) v4.toNatClampNeg)) σ H locs ls hf hI (lv_sub hl [0, 1, 3, 4, 5] rfl)
            · replace hf := gx_mts hf
              obtain ⟨hg_10, hf⟩ := gx_gd hf
              refine lv_aload_n hx hb d_Ro_nextInLine_54 rfl (lv_at hl 2 rfl) ?_
              refine lv_ifnull hx hb d_Ro_nextInLine_55 ?_
              refine lv_aload hx hb d_Ro_nextInLine_58 (lv_at hl 0 rfl) ?_
              refine lv_aload_n hx hb d_Ro_nextInLine_60 rfl (lv_at hl 2 rfl) ?_
              obtain ⟨r_13, σ_11, hc_12, hf⟩ := gx_bde hf
              refine gx_go (va_runV (As := [.ref (adr o_9)]) (rest := []) G.1 (ct_Jb_standsBefore l D dA adr A hA N (gx_el (u0 + 17) v4.toNatClampNeg) o_9 σ r_13 σ_11 hc_12) (cwV 1 ht gi_Ro_106 rfl rfl rfl (by decide +kernel) ⟨Nat.le_of_ble_eq_true rfl, Nat.le_of_ble_eq_true rfl⟩) (gx_preV G hI cl_Jb (gx_ci_j (gx_el_j hu0 hi_4))) rfl rfl hl.1 rfl (lv_room (Nat.le_of_ble_eq_true rfl)) d_Ro_nextInLine_61 ⟨Nat.zero_le _, Nat.zero_le _⟩) hI (st1 := [.int r_13]) rfl (fun H locs hI => ?_)
              refine lv_if_eq (tgt := 70) hx hb d_Ro_nextInLine_64 (by decide) (fun c_14 => ?_) (fun c_14 => ?_)
              · replace hf := (if_pos c_14).symm.trans hf
                refine lv_iinc (v := v4 + 1) (lv' := [(4, .int (v4 + 1)), (5, .ref (adr (gx_el (u0 + 17) v4.toNatClampNeg))), (3, .ref (adr o_9)), (0, .ref (adr u0)), (1, .int u1), (2, .null)]) hx hb d_Ro_nextInLine_70 hl (k := 1) rfl rfl (by decide) rfl (fun ls hl => ?_)
                refine lv_goto (tgt := 5) hx hb d_Ro_nextInLine_73 (by decide) ?_
                exact ih (v4 + 1) (some o_9) σ_11 H locs ls hf hI (lv_sub hl [0, 2, 3, 4, 5] rfl)
              · replace hf := (if_neg c_14).symm.trans hf
                refine lv_aload hx hb d_Ro_nextInLine_67 (lv_at hl 0 rfl) ?_
                refine lv_astore_n (i := 3) (lv' := [(3, .ref (adr (gx_el (u0 + 17) v4.toNatClampNeg))), (5, .ref (adr (gx_el (u0 + 17) v4.toNatClampNeg))), (4, .int v4), (0, .ref (adr u0)), (1, .int u1), (2, .null)]) hx hb d_Ro_nextInLine_69 rfl hl (by decide) rfl (fun ls hl => ?_)
                refine lv_iinc (v := v4 + 1) (lv' := [(4, .int (v4 + 1)), (3, .ref (adr (gx_el (u0 + 17) v4.toNatClampNeg))), (5, .ref (adr (gx_el (u0 + 17) v4.toNatClampNeg))), (0, .ref (adr u0)), (1, .int u1), (2, .null)]) hx hb d_Ro_nextInLine_70 hl (k := 2) rfl rfl (by decide) rfl (fun ls hl => ?_)
                refine lv_goto (tgt := 5) hx hb d_Ro_nextInLine_73 (by decide) ?_
                exact ih (v4 + 1) (some (gx_el (u0 + 17) v4.toNatClampNeg)) σ_11 H locs ls hf hI (lv_sub hl [0, 1, 3, 4, 5] rfl)
          · replace hf := gx_mts hf
            obtain ⟨hg_8, hf⟩ := gx_gd hf
            refine lv_aload_n hx hb d_Ro_nextInLine_41 rfl (lv_at hl 5 rfl) ?_
            refine lv_ifnull hx hb d_Ro_nextInLine_42 ?_
            refine lv_aload_n hx hb d_Ro_nextInLine_45 rfl (lv_at hl 5 rfl) ?_
            refine lv_aload hx hb d_Ro_nextInLine_46 (lv_at hl 0 rfl) ?_
            obtain ⟨r_17, σ_15, hc_16, hf⟩ := gx_bde hf
            refine gx_go (va_runV (As := [.ref (adr (gx_el (u0 + 17) v4.toNatClampNeg))]) (rest := []) G.1 (ct_Jb_standsBefore l D dA adr A hA N o_7 (gx_el (u0 + 17) v4.toNatClampNeg) σ r_17 σ_15 hc_16) (cwV 1 ht gi_Ro_106 rfl rfl rfl (by decide +kernel) ⟨Nat.le_of_ble_eq_true rfl, Nat.le_of_ble_eq_true rfl⟩) (gx_preV G hI cl_Jb (gx_ci_j hg_8)) rfl rfl hl.1 rfl (lv_room (Nat.le_of_ble_eq_true rfl)) d_Ro_nextInLine_48 ⟨Nat.zero_le _, Nat.zero_le _⟩) hI (st1 := [.int r_17]) rfl (fun H locs hI => ?_)
            refine lv_if_eq (tgt := 70) hx hb d_Ro_nextInLine_51 (by decide) (fun c_18 => ?_) (fun c_18 => ?_)
            · replace hf := (if_pos c_18).symm.trans hf
              refine lv_iinc (v := v4 + 1) (lv' := [(4, .int (v4 + 1)), (5, .ref (adr (gx_el (u0 + 17) v4.toNatClampNeg))), (3, va_rf (Option.map adr v3)), (0, .ref (adr u0)), (1, .int u1), (2, .ref (adr o_7))]) hx hb d_Ro_nextInLine_70 hl (k := 1) rfl rfl (by decide) (by simp [gx_cat, gx_rfs, gx_rfn]) (fun ls hl => ?_)
              refine lv_goto (tgt := 5) hx hb d_Ro_nextInLine_73 (by decide) ?_
              exact ih (v4 + 1) v3 σ_15 H locs ls hf hI (lv_sub hl [0, 2, 3, 4, 5] rfl)
            · replace hf := (if_neg c_18).symm.trans hf
              rcases v3 with _ | o_19
              · replace hf := gx_mtn hf
                refine lv_aload_nN hx hb d_Ro_nextInLine_54 rfl (lv_at hl 2 rfl) ?_
                refine lv_ifnullN (tgt := 67) hx hb d_Ro_nextInLine_55 (by decide) ?_
                refine lv_aload hx hb d_Ro_nextInLine_67 (lv_at hl 0 rfl) ?_
                refine lv_astore_n (i := 3) (lv' := [(3, .ref (adr (gx_el (u0 + 17) v4.toNatClampNeg))), (5, .ref (adr (gx_el (u0 + 17) v4.toNatClampNeg))), (4, .int v4), (0, .ref (adr u0)), (1, .int u1), (2, .ref (adr o_7))]) hx hb d_Ro_nextInLine_69 rfl hl (by decide) rfl (fun ls hl => ?_)
                refine lv_iinc (v := v4 + 1) (lv' := [(4, .int (v4 + 1)), (3, .ref (adr (gx_el (u0 + 17) v4.toNatClampNeg))), (5, .ref (adr (gx_el (u0 + 17) v4.toNatClampNeg))), (0, .ref (adr u0)), (1, .int u1), (2, .ref (adr o_7))]) hx hb d_Ro_nextInLine_70 hl (k := 2) rfl rfl (by decide) rfl (fun ls hl => ?_)
                refine lv_goto (tgt := 5) hx hb d_Ro_nextInLine_73 (by decide) ?_
                exact ih (v4 + 1) (some (gx_el (u0 + 17) v4.toNatClampNeg)) σ_15 H locs ls hf hI (lv_sub hl [0, 1, 3, 4, 5] rfl)
              · replace hf := gx_mts hf
                obtain ⟨hg_20, hf⟩ := gx_gd hf
                refine lv_aload_n hx hb d_Ro_nextInLine_54 rfl (lv_at hl 2 rfl) ?_
                refine lv_ifnull hx hb d_Ro_nextInLine_55 ?_
                refine lv_aload hx hb d_Ro_nextInLine_58 (lv_at hl 0 rfl) ?_
                refine lv_aload_n hx hb d_Ro_nextInLine_60 rfl (lv_at hl 2 rfl) ?_
                obtain ⟨r_23, σ_21, hc_22, hf⟩ := gx_bde hf
                refine gx_go (va_runV (As := [.ref (adr o_19)]) (rest := []) G.1 (ct_Jb_standsBefore l D dA adr A hA N (gx_el (u0 + 17) v4.toNatClampNeg) o_19 σ_15 r_23 σ_21 hc_22) (cwV 1 ht gi_Ro_106 rfl rfl rfl (by decide +kernel) ⟨Nat.le_of_ble_eq_true rfl, Nat.le_of_ble_eq_true rfl⟩) (gx_preV G hI cl_Jb (gx_ci_j (gx_el_j hu0 hi_4))) rfl rfl hl.1 rfl (lv_room (Nat.le_of_ble_eq_true rfl)) d_Ro_nextInLine_61 ⟨Nat.zero_le _, Nat.zero_le _⟩) hI (st1 := [.int r_23]) rfl (fun H locs hI => ?_)
                refine lv_if_eq (tgt := 70) hx hb d_Ro_nextInLine_64 (by decide) (fun c_24 => ?_) (fun c_24 => ?_)
                · replace hf := (if_pos c_24).symm.trans hf
                  refine lv_iinc (v := v4 + 1) (lv' := [(4, .int (v4 + 1)), (5, .ref (adr (gx_el (u0 + 17) v4.toNatClampNeg))), (3, .ref (adr o_19)), (0, .ref (adr u0)), (1, .int u1), (2, .ref (adr o_7))]) hx hb d_Ro_nextInLine_70 hl (k := 1) rfl rfl (by decide) rfl (fun ls hl => ?_)
                  refine lv_goto (tgt := 5) hx hb d_Ro_nextInLine_73 (by decide) ?_
                  exact ih (v4 + 1) (some o_19) σ_21 H locs ls hf hI (lv_sub hl [0, 2, 3, 4, 5] rfl)
                · replace hf := (if_neg c_24).symm.trans hf
                  refine lv_aload hx hb d_Ro_nextInLine_67 (lv_at hl 0 rfl) ?_
                  refine lv_astore_n (i := 3) (lv' := [(3, .ref (adr (gx_el (u0 + 17) v4.toNatClampNeg))), (5, .ref (adr (gx_el (u0 + 17) v4.toNatClampNeg))), (4, .int v4), (0, .ref (adr u0)), (1, .int u1), (2, .ref (adr o_7))]) hx hb d_Ro_nextInLine_69 rfl hl (by decide) rfl (fun ls hl => ?_)
                  refine lv_iinc (v := v4 + 1) (lv' := [(4, .int (v4 + 1)), (3, .ref (adr (gx_el (u0 + 17) v4.toNatClampNeg))), (5, .ref (adr (gx_el (u0 + 17) v4.toNatClampNeg))), (0, .ref (adr u0)), (1, .int u1), (2, .ref (adr o_7))]) hx hb d_Ro_nextInLine_70 hl (k := 2) rfl rfl (by decide) rfl (fun ls hl => ?_)
                  refine lv_goto (tgt := 5) hx hb d_Ro_nextInLine_73 (by decide) ?_
                  exact ih (v4 + 1) (some (gx_el (u0 + 17) v4.toNatClampNeg)) σ_21 H locs ls hf hI (lv_sub hl [0, 1, 3, 4, 5] rfl)
set_option maxHeartbeats 4000000 in
set_option maxRecDepth 100000 in
theorem ct_Ro_nextInLine (l : Launch) (D : va_G) (dA : Nat → ClassId) (adr : Nat → Nat) (A : Nat → Prop) (hA : gx_A A adr) (N : Nat) (o0 : Nat) (p0 : Int32) (x1 : Option Nat) (σ : gx_M) (r : Option Nat) (σ' : gx_M) (hf : fn_Ro_nextInLine N o0 p0 x1 σ = some (r, σ')) : Met l y_Ro_nextInLine w_Ro_nextInLine rm_Ro_nextInLine (gx_Pc D dA adr σ [.ref (adr o0), .int p0, va_rf (Option.map adr x1)]) (gx_Q D dA adr A (some (va_rf (Option.map adr r))) σ') 0 0 A := by
  refine Met.ofW (cc := b_Ro_nextInLine) (maxL := 6) (ret := some (.object R_Jb)) (by decide) rfl ?_
  intro p e s m args below meth c s₁ B hml hv
  obtain ⟨rfl, hP, hK⟩ := hv
  have hx := B.exec
  have hb := B.bytes
  have hr := B.returns
  have hlocks := B.notSynchronized
  have ht : ∀ w ∈ gx_tb, w.before _ s = true := fun w h => atoms_spec (ws := w_Ro_nextInLine) B.pre w (List.mem_cons_of_mem _ h)
  have hown : s.vm.findClass R_Ro = some m.cls := findClass_of_methodNamed B.named
  have G : gx_G p m c b_Ro_nextInLine 6 s _ gx_tb R_Ro D dA := ⟨⟨hx, hb, hml, hown, ht⟩, hK⟩
  have hI : gx_I D dA adr A s.heap σ s.heap [] := ⟨hP, va_S.rf⟩
  have hl := lv_entry ([.ref (adr o0), .int p0, va_rf (Option.map adr x1)]) (n := 6) (by cases x1 <;> exact Nat.le_of_ble_eq_true rfl)
  rw [lg_entry_eq]
  generalize (lg_sl ([.ref (adr o0), .int p0, va_rf (Option.map adr x1)]) ++ List.replicate (6 - (lg_sl ([.ref (adr o0), .int p0, va_rf (Option.map adr x1)])).length) Slot.unset).toArray = ls at hl ⊢
  have hl : lv_has ls 6 [(0, .ref (adr o0)), (1, .int p0), (2, va_rf (Option.map adr x1))] := hl
  rw [fn_Ro_nextInLine] at hf
  obtain ⟨ho0, hf⟩ := gx_gd hf
  refine lv_null hx hb d_Ro_nextInLine_0 ?_
  refine lv_astore_nN (i := 3) (lv' := [(3, .null), (0, .ref (adr o0)), (1, .int p0), (2, va_rf (Option.map adr x1))]) hx hb d_Ro_nextInLine_1 rfl hl (by decide) (by simp [gx_cat, gx_rfs, gx_rfn]) (fun ls hl => ?_)
  refine lv_iconst (v := 0) hx hb d_Ro_nextInLine_2 (by decide) ?_
  refine lv_istore (i := 4) (lv' := [(4, .int ((0 : Int32))), (3, .null), (0, .ref (adr o0)), (1, .int p0), (2, va_rf (Option.map adr x1))]) hx hb d_Ro_nextInLine_3 hl (by decide) rfl (fun ls hl => ?_)
  exact wl_Ro_nextInLine_L5 G hr hlocks hA N _ o0 p0 x1 ho0 N ((0 : Int32)) none σ _ _ ls hf hI (lv_sub hl [0, 1, 2, 3, 4] rfl)
def fn_Ro_inLine_L10 (N : Nat) (u0 : Nat) (u1 : Int32) (u2 : Int32) : Nat → Int32 → Option Nat → gx_M → Option (Option Nat × gx_M)
  | 0, _, _, _ => none
  | n + 1, v4, v3, σ => if u2 ≤ v4 then (gx_mt v3 (some (none, σ)) (fun o_7 => if 42 ≤ o_7 ∧ o_7 < 722 then (some (some o_7, σ)) else none)) else (gx_mt v3 (some (none, σ)) (fun o_9 => if 42 ≤ o_9 ∧ o_9 < 722 then (gx_bd (fn_Ro_nextInLine N u0 u1 (some o_9) σ) (fun x_13 σ_11 => gx_mt x_13 (fn_Ro_inLine_L10 N u0 u1 u2 n (v4 + 1) none σ_11) (fun o_14 => if 42 ≤ o_14 ∧ o_14 < 722 then (fn_Ro_inLine_L10 N u0 u1 u2 n (v4 + 1) (some o_14) σ_11) else none))) else none))
def fn_Ro_inLine (N : Nat) (o0 : Nat) (p0 : Int32) (p1 : Int32) (σ : gx_M) : Option (Option Nat × gx_M) := if 8 ≤ o0 ∧ o0 < 25 then (gx_bd (fn_Ro_nextInLine N o0 p0 none σ) (fun x_3 σ_1 => gx_mt x_3 (fn_Ro_inLine_L10 N o0 p0 p1 N ((0 : Int32)) none σ_1) (fun o_4 => if 42 ≤ o_4 ∧ o_4 < 722 then (fn_Ro_inLine_L10 N o0 p0 p1 N ((0 : Int32)) (some o_4) σ_1) else none))) else none
set_option maxHeartbeats 4000000 in
set_option maxRecDepth 100000 in
theorem wl_Ro_inLine_L10 {p : Program} {l : Launch} {e : Env} {s : State} {m : MethodId} {args : Array Value} {below : List Frame} {meth : Method} {c : Code} {D : va_G} {dA : Nat → ClassId} {adr : Nat → Nat} {A : Nat → Prop} (G : gx_G p m c b_Ro_inLine 5 s args gx_tb R_Ro D dA) (hr : meth.sig.returnType = some (.object R_Jb)) (hlocks : meth.locks = false) (hA : gx_A A adr) (N : Nat) (res : Option Nat × gx_M) (u0 : Nat) (u1 : Int32) (u2 : Int32) (hu0 : 8 ≤ u0 ∧ u0 < 25) : ∀ (n : Nat) (v4 : Int32) (v3 : Option Nat) (σ : gx_M) (H : Heap) (locs : List Loc) (ls : Array Slot), fn_Ro_inLine_L10 N u0 u1 u2 n v4 v3 σ = some res → gx_I D dA adr A s.heap σ H locs → lv_has ls 5 [(4, .int v4), (3, va_rf (Option.map adr v3)), (0, .ref (adr u0)), (1, .int u1), (2, .int u2)] → W p l e (headSpec w_Ro_inLine rm_Ro_inLine).room s m args below meth c H locs 0 0 (MQ below (gx_Q D dA adr A (some (va_rf (Option.map adr res.1))) res.2) args s 0 0 A) (F0 m 10 ls []) := by
  obtain ⟨⟨hx, hb, hml, hown, ht⟩, hK⟩ := id G
  intro n
  induction n with
  | zero =>
    intro v4 v3 σ H locs ls hf
    cases hf
  | succ n ih =>
    intro v4 v3 σ H locs ls hf hI hl
    rw [fn_Ro_inLine_L10] at hf
    refine lv_iload hx hb d_Ro_inLine_10 (lv_at hl 0 rfl) ?_
    refine lv_iload_n hx hb d_Ro_inLine_12 rfl (lv_at hl 4 rfl) ?_
    refine lv_icmp_ge (tgt := 33) hx hb d_Ro_inLine_13 (by decide) (fun c_6 => ?_) (fun c_6 => ?_)
    · replace hf := (if_pos c_6).symm.trans hf
      rcases v3 with _ | o_7
      · replace hf := gx_mtn hf
        refine lv_aload_nN hx hb d_Ro_inLine_33 rfl (lv_at hl 1 rfl) ?_
        cases hf
        exact W.aret (v := .null) hx hb hr (Or.inl ⟨_, rfl⟩) (Or.inl rfl) (gx_F hI) hI.2.2.2 d_Ro_inLine_34
      · replace hf := gx_mts hf
        obtain ⟨hg_8, hf⟩ := gx_gd hf
        refine lv_aload_n hx hb d_Ro_inLine_33 rfl (lv_at hl 1 rfl) ?_
        cases hf
        exact W.aret hx hb hr (Or.inl ⟨_, rfl⟩) (Or.inr ⟨_, rfl⟩) (gx_F hI) hI.2.2.2 d_Ro_inLine_34
    · replace hf := (if_neg c_6).symm.trans hf
      rcases v3 with _ | o_9
      · replace hf := gx_mtn hf
        refine lv_aload_nN hx hb d_Ro_inLine_16 rfl (lv_at hl 1 rfl) ?_
        refine lv_ifnullN (tgt := 33) hx hb d_Ro_inLine_17 (by decide) ?_
        refine lv_aload_nN hx hb d_Ro_inLine_33 rfl (lv_at hl 1 rfl) ?_
        cases hf
        exact W.aret (v := .null) hx hb hr (Or.inl ⟨_, rfl⟩) (Or.inl rfl) (gx_F hI) hI.2.2.2 d_Ro_inLine_34
      · replace hf := gx_mts hf
        obtain ⟨hg_10, hf⟩ := gx_gd hf
        refine lv_aload_n hx hb d_Ro_inLine_16 rfl (lv_at hl 1 rfl) ?_
        refine lv_ifnull hx hb d_Ro_inLine_17 ?_
        refine lv_aload_n hx hb d_Ro_inLine_20 rfl (lv_at hl 2 rfl) ?_
        refine lv_iload_n hx hb d_Ro_inLine_21 rfl (lv_at hl 3 rfl) ?_
        refine lv_aload_n hx hb d_Ro_inLine_22 rfl (lv_at hl 1 rfl) ?_
        obtain ⟨x_13, σ_11, hc_12, hf⟩ := gx_bde hf
        rcases x_13 with _ | o_14
        · replace hf := gx_mtn hf
          refine gx_go (va_runV (As := [.int u1, .ref (adr o_9)]) (rest := []) G.1 (ct_Ro_nextInLine l D dA adr A hA N u0 u1 (some o_9) σ none σ_11 hc_12) (cwV 2 ht gi_Ro_99 rfl rfl rfl (by decide +kernel) ⟨Nat.le_of_ble_eq_true rfl, Nat.le_of_ble_eq_true rfl⟩) (gx_preV G hI cl_Ro (gx_ci_r hu0)) rfl rfl hl.1 rfl (lv_room (Nat.le_of_ble_eq_true rfl)) d_Ro_inLine_23 ⟨Nat.zero_le _, Nat.zero_le _⟩) hI (st1 := [.null]) rfl (fun H locs hI => ?_)
          refine lv_astore_nN (i := 3) (lv' := [(3, .null), (4, .int v4), (0, .ref (adr u0)), (1, .int u1), (2, .int u2)]) hx hb d_Ro_inLine_26 rfl hl (by decide) rfl (fun ls hl => ?_)
          refine lv_iinc (v := v4 + 1) (lv' := [(4, .int (v4 + 1)), (3, .null), (0, .ref (adr u0)), (1, .int u1), (2, .int u2)]) hx hb d_Ro_inLine_27 hl (k := 1) rfl rfl (by decide) rfl (fun ls hl => ?_)
          refine lv_goto (tgt := 10) hx hb d_Ro_inLine_30 (by decide) ?_
          exact ih (v4 + 1) none σ_11 H locs ls hf hI (lv_sub hl [0, 1, 2, 3, 4] rfl)
        · replace hf := gx_mts hf
          obtain ⟨hg_15, hf⟩ := gx_gd hf
          refine gx_go (va_runV (As := [.int u1, .ref (adr o_9)]) (rest := []) G.1 (ct_Ro_nextInLine l D dA adr A hA N u0 u1 (some o_9) σ (some o_14) σ_11 hc_12) (cwV 2 ht gi_Ro_99 rfl rfl rfl (by decide +kernel) ⟨Nat.le_of_ble_eq_true rfl, Nat.le_of_ble_eq_true rfl⟩) (gx_preV G hI cl_Ro (gx_ci_r hu0)) rfl rfl hl.1 rfl (lv_room (Nat.le_of_ble_eq_true rfl)) d_Ro_inLine_23 ⟨Nat.zero_le _, Nat.zero_le _⟩) hI (st1 := [.ref (adr o_14)]) rfl (fun H locs hI => ?_)
          refine lv_astore_n (i := 3) (lv' := [(3, .ref (adr o_14)), (4, .int v4), (0, .ref (adr u0)), (1, .int u1), (2, .int u2)]) hx hb d_Ro_inLine_26 rfl hl (by decide) rfl (fun ls hl => ?_)
          refine lv_iinc (v := v4 + 1) (lv' := [(4, .int (v4 + 1)), (3, .ref (adr o_14)), (0, .ref (adr u0)), (1, .int u1), (2, .int u2)]) hx hb d_Ro_inLine_27 hl (k := 1) rfl rfl (by decide) rfl (fun ls hl => ?_)
          refine lv_goto (tgt := 10) hx hb d_Ro_inLine_30 (by decide) ?_
          exact ih (v4 + 1) (some o_14) σ_11 H locs ls hf hI (lv_sub hl [0, 1, 2, 3, 4] rfl)
set_option maxHeartbeats 4000000 in
set_option maxRecDepth 100000 in
theorem ct_Ro_inLine (l : Launch) (D : va_G) (dA : Nat → ClassId) (adr : Nat → Nat) (A : Nat → Prop) (hA : gx_A A adr) (N : Nat) (o0 : Nat) (p0 : Int32) (p1 : Int32) (σ : gx_M) (r : Option Nat) (σ' : gx_M) (hf : fn_Ro_inLine N o0 p0 p1 σ = some (r, σ')) : Met l y_Ro_inLine w_Ro_inLine rm_Ro_inLine (gx_Pc D dA adr σ [.ref (adr o0), .int p0, .int p1]) (gx_Q D dA adr A (some (va_rf (Option.map adr r))) σ') 0 0 A := by
  refine Met.ofW (cc := b_Ro_inLine) (maxL := 5) (ret := some (.object R_Jb)) (by decide) rfl ?_
  intro p e s m args below meth c s₁ B hml hv
  obtain ⟨rfl, hP, hK⟩ := hv
  have hx := B.exec
  have hb := B.bytes
  have hr := B.returns
  have hlocks := B.notSynchronized
  have ht : ∀ w ∈ gx_tb, w.before _ s = true := fun w h => atoms_spec (ws := w_Ro_inLine) B.pre w (List.mem_cons_of_mem _ h)
  have hown : s.vm.findClass R_Ro = some m.cls := findClass_of_methodNamed B.named
  have G : gx_G p m c b_Ro_inLine 5 s _ gx_tb R_Ro D dA := ⟨⟨hx, hb, hml, hown, ht⟩, hK⟩
  have hI : gx_I D dA adr A s.heap σ s.heap [] := ⟨hP, va_S.rf⟩
  have hl := lv_entry ([.ref (adr o0), .int p0, .int p1]) (n := 5) (Nat.le_of_ble_eq_true rfl)
  rw [lg_entry_eq]
  generalize (lg_sl ([.ref (adr o0), .int p0, .int p1]) ++ List.replicate (5 - (lg_sl ([.ref (adr o0), .int p0, .int p1])).length) Slot.unset).toArray = ls at hl ⊢
  have hl : lv_has ls 5 [(0, .ref (adr o0)), (1, .int p0), (2, .int p1)] := hl
  rw [fn_Ro_inLine] at hf
  obtain ⟨ho0, hf⟩ := gx_gd hf
  refine lv_aload_n hx hb d_Ro_inLine_0 rfl (lv_at hl 0 rfl) ?_
  refine lv_iload_n hx hb d_Ro_inLine_1 rfl (lv_at hl 1 rfl) ?_
  refine lv_null hx hb d_Ro_inLine_2 ?_
  obtain ⟨x_3, σ_1, hc_2, hf⟩ := gx_bde hf
  rcases x_3 with _ | o_4
  · replace hf := gx_mtn hf
    refine gx_go (va_runV (As := [.int p0, .null]) (rest := []) G.1 (ct_Ro_nextInLine l D dA adr A hA N o0 p0 none σ none σ_1 hc_2) (cwV 2 ht gi_Ro_99 rfl rfl rfl (by decide +kernel) ⟨Nat.le_of_ble_eq_true rfl, Nat.le_of_ble_eq_true rfl⟩) (gx_preV G hI cl_Ro (gx_ci_r ho0)) rfl rfl hl.1 rfl (lv_room (Nat.le_of_ble_eq_true rfl)) d_Ro_inLine_3 ⟨Nat.zero_le _, Nat.zero_le _⟩) hI (st1 := [.null]) rfl (fun H locs hI => ?_)
    refine lv_astore_nN (i := 3) (lv' := [(3, .null), (0, .ref (adr o0)), (1, .int p0), (2, .int p1)]) hx hb d_Ro_inLine_6 rfl hl (by decide) rfl (fun ls hl => ?_)
    refine lv_iconst (v := 0) hx hb d_Ro_inLine_7 (by decide) ?_
    refine lv_istore (i := 4) (lv' := [(4, .int ((0 : Int32))), (3, .null), (0, .ref (adr o0)), (1, .int p0), (2, .int p1)]) hx hb d_Ro_inLine_8 hl (by decide) rfl (fun ls hl => ?_)
    exact wl_Ro_inLine_L10 G hr hlocks hA N _ o0 p0 p1 ho0 N ((0 : Int32)) none σ_1 _ _ ls hf hI (lv_sub hl [0, 1, 2, 3, 4] rfl)
  · replace hf := gx_mts hf
    obtain ⟨hg_5, hf⟩ := gx_gd hf
    refine gx_go (va_runV (As := [.int p0, .null]) (rest := []) G.1 (ct_Ro_nextInLine l D dA adr A hA N o0 p0 none σ (some o_4) σ_1 hc_2) (cwV 2 ht gi_Ro_99 rfl rfl rfl (by decide +kernel) ⟨Nat.le_of_ble_eq_true rfl, Nat.le_of_ble_eq_true rfl⟩) (gx_preV G hI cl_Ro (gx_ci_r ho0)) rfl rfl hl.1 rfl (lv_room (Nat.le_of_ble_eq_true rfl)) d_Ro_inLine_3 ⟨Nat.zero_le _, Nat.zero_le _⟩) hI (st1 := [.ref (adr o_4)]) rfl (fun H locs hI => ?_)
    refine lv_astore_n (i := 3) (lv' := [(3, .ref (adr o_4)), (0, .ref (adr o0)), (1, .int p0), (2, .int p1)]) hx hb d_Ro_inLine_6 rfl hl (by decide) rfl (fun ls hl => ?_)
    refine lv_iconst (v := 0) hx hb d_Ro_inLine_7 (by decide) ?_
    refine lv_istore (i := 4) (lv' := [(4, .int ((0 : Int32))), (3, .ref (adr o_4)), (0, .ref (adr o0)), (1, .int p0), (2, .int p1)]) hx hb d_Ro_inLine_8 hl (by decide) rfl (fun ls hl => ?_)
    exact wl_Ro_inLine_L10 G hr hlocks hA N _ o0 p0 p1 ho0 N ((0 : Int32)) (some o_4) σ_1 _ _ ls hf hI (lv_sub hl [0, 1, 2, 3, 4] rfl)
