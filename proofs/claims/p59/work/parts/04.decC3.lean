theorem dX8_remove_74 : decode cX8_remove 74 = .ok (.aastore, 1) := by decide +kernel
theorem dX8_remove_75 : decode cX8_remove 75 = .ok (.return_, 1) := by decide +kernel
theorem dX8_rowOf_0 : decode cX8_rowOf 0 = .ok (.iconst 0, 1) := by decide +kernel
theorem dX8_rowOf_1 : decode cX8_rowOf 1 = .ok (.istore_n 2, 1) := by decide +kernel
theorem dX8_rowOf_2 : decode cX8_rowOf 2 = .ok (.iload_n 2, 1) := by decide +kernel
theorem dX8_rowOf_3 : decode cX8_rowOf 3 = .ok (.aload_n 0, 1) := by decide +kernel
theorem dX8_rowOf_4 : decode cX8_rowOf 4 = .ok (.getfield 43, 3) := by decide +kernel
theorem dX8_rowOf_7 : decode cX8_rowOf 7 = .ok (.if_icmp .ge 24, 3) := by decide +kernel
theorem dX8_rowOf_10 : decode cX8_rowOf 10 = .ok (.aload_n 0, 1) := by decide +kernel
theorem dX8_rowOf_11 : decode cX8_rowOf 11 = .ok (.getfield 25, 3) := by decide +kernel
theorem dX8_rowOf_14 : decode cX8_rowOf 14 = .ok (.iload_n 2, 1) := by decide +kernel
theorem dX8_rowOf_15 : decode cX8_rowOf 15 = .ok (.aaload, 1) := by decide +kernel
theorem dX8_rowOf_16 : decode cX8_rowOf 16 = .ok (.getfield 191, 3) := by decide +kernel
theorem dX8_rowOf_19 : decode cX8_rowOf 19 = .ok (.iload_n 1, 1) := by decide +kernel
theorem dX8_rowOf_20 : decode cX8_rowOf 20 = .ok (.if_icmp .ne 5, 3) := by decide +kernel
theorem dX8_rowOf_23 : decode cX8_rowOf 23 = .ok (.iload_n 2, 1) := by decide +kernel
theorem dX8_rowOf_24 : decode cX8_rowOf 24 = .ok (.ireturn, 1) := by decide +kernel
theorem dX8_rowOf_25 : decode cX8_rowOf 25 = .ok (.iinc 2 1, 3) := by decide +kernel
theorem dX8_rowOf_28 : decode cX8_rowOf 28 = .ok (.goto (-26), 3) := by decide +kernel
theorem dX8_rowOf_31 : decode cX8_rowOf 31 = .ok (.iconst (-1), 1) := by decide +kernel
theorem dX8_rowOf_32 : decode cX8_rowOf 32 = .ok (.ireturn, 1) := by decide +kernel
theorem dX8_nestAt_0 : decode cX8_nestAt 0 = .ok (.iload_n 1, 1) := by decide +kernel
theorem dX8_nestAt_1 : decode cX8_nestAt 1 = .ok (.ifCond .lt 11, 3) := by decide +kernel
theorem dX8_nestAt_4 : decode cX8_nestAt 4 = .ok (.iload_n 1, 1) := by decide +kernel
theorem dX8_nestAt_5 : decode cX8_nestAt 5 = .ok (.aload_n 0, 1) := by decide +kernel
theorem dX8_nestAt_6 : decode cX8_nestAt 6 = .ok (.getfield 36, 3) := by decide +kernel
theorem dX8_nestAt_9 : decode cX8_nestAt 9 = .ok (.if_icmp .lt 7, 3) := by decide +kernel
theorem dX8_nestAt_12 : decode cX8_nestAt 12 = .ok (.aconst_null, 1) := by decide +kernel
theorem dX8_nestAt_13 : decode cX8_nestAt 13 = .ok (.goto 9, 3) := by decide +kernel
theorem dX8_nestAt_16 : decode cX8_nestAt 16 = .ok (.aload_n 0, 1) := by decide +kernel
theorem dX8_nestAt_17 : decode cX8_nestAt 17 = .ok (.getfield 11, 3) := by decide +kernel
theorem dX8_nestAt_20 : decode cX8_nestAt 20 = .ok (.iload_n 1, 1) := by decide +kernel
theorem dX8_nestAt_21 : decode cX8_nestAt 21 = .ok (.aaload, 1) := by decide +kernel
theorem dX8_nestAt_22 : decode cX8_nestAt 22 = .ok (.areturn, 1) := by decide +kernel
theorem dX8_crowAt_0 : decode cX8_crowAt 0 = .ok (.iload_n 1, 1) := by decide +kernel
theorem dX8_crowAt_1 : decode cX8_crowAt 1 = .ok (.ifCond .lt 11, 3) := by decide +kernel
theorem dX8_crowAt_4 : decode cX8_crowAt 4 = .ok (.iload_n 1, 1) := by decide +kernel
theorem dX8_crowAt_5 : decode cX8_crowAt 5 = .ok (.aload_n 0, 1) := by decide +kernel
theorem dX8_crowAt_6 : decode cX8_crowAt 6 = .ok (.getfield 40, 3) := by decide +kernel
theorem dX8_crowAt_9 : decode cX8_crowAt 9 = .ok (.if_icmp .lt 7, 3) := by decide +kernel
theorem dX8_crowAt_12 : decode cX8_crowAt 12 = .ok (.aconst_null, 1) := by decide +kernel
theorem dX8_crowAt_13 : decode cX8_crowAt 13 = .ok (.goto 9, 3) := by decide +kernel
theorem dX8_crowAt_16 : decode cX8_crowAt 16 = .ok (.aload_n 0, 1) := by decide +kernel
theorem dX8_crowAt_17 : decode cX8_crowAt 17 = .ok (.getfield 19, 3) := by decide +kernel
theorem dX8_crowAt_20 : decode cX8_crowAt 20 = .ok (.iload_n 1, 1) := by decide +kernel
theorem dX8_crowAt_21 : decode cX8_crowAt 21 = .ok (.aaload, 1) := by decide +kernel
theorem dX8_crowAt_22 : decode cX8_crowAt 22 = .ok (.areturn, 1) := by decide +kernel
theorem dX8_messageWith_0 : decode cX8_messageWith 0 = .ok (.aload_n 0, 1) := by decide +kernel
theorem dX8_messageWith_1 : decode cX8_messageWith 1 = .ok (.iload_n 1, 1) := by decide +kernel
theorem dX8_messageWith_2 : decode cX8_messageWith 2 = .ok (.invokevirtual 241, 3) := by decide +kernel
theorem dX8_messageWith_5 : decode cX8_messageWith 5 = .ok (.istore_n 2, 1) := by decide +kernel
theorem dX8_messageWith_6 : decode cX8_messageWith 6 = .ok (.iload_n 2, 1) := by decide +kernel
theorem dX8_messageWith_7 : decode cX8_messageWith 7 = .ok (.iconst (-1), 1) := by decide +kernel
theorem dX8_messageWith_8 : decode cX8_messageWith 8 = .ok (.if_icmp .ne 7, 3) := by decide +kernel
theorem dX8_messageWith_11 : decode cX8_messageWith 11 = .ok (.aconst_null, 1) := by decide +kernel
theorem dX8_messageWith_12 : decode cX8_messageWith 12 = .ok (.goto 9, 3) := by decide +kernel
theorem dX8_messageWith_15 : decode cX8_messageWith 15 = .ok (.aload_n 0, 1) := by decide +kernel
theorem dX8_messageWith_16 : decode cX8_messageWith 16 = .ok (.getfield 25, 3) := by decide +kernel
theorem dX8_messageWith_19 : decode cX8_messageWith 19 = .ok (.iload_n 2, 1) := by decide +kernel
theorem dX8_messageWith_20 : decode cX8_messageWith 20 = .ok (.aaload, 1) := by decide +kernel
theorem dX8_messageWith_21 : decode cX8_messageWith 21 = .ok (.areturn, 1) := by decide +kernel
theorem dX8_waitingAtRank_0 : decode cX8_waitingAtRank 0 = .ok (.iconst 0, 1) := by decide +kernel
theorem dX8_waitingAtRank_1 : decode cX8_waitingAtRank 1 = .ok (.istore_n 2, 1) := by decide +kernel
theorem dX8_waitingAtRank_2 : decode cX8_waitingAtRank 2 = .ok (.iconst 0, 1) := by decide +kernel
theorem dX8_waitingAtRank_3 : decode cX8_waitingAtRank 3 = .ok (.istore_n 3, 1) := by decide +kernel
theorem dX8_waitingAtRank_4 : decode cX8_waitingAtRank 4 = .ok (.iload_n 3, 1) := by decide +kernel
theorem dX8_waitingAtRank_5 : decode cX8_waitingAtRank 5 = .ok (.iconst 5, 1) := by decide +kernel
theorem dX8_waitingAtRank_6 : decode cX8_waitingAtRank 6 = .ok (.if_icmp .ge 66, 3) := by decide +kernel
theorem dX8_waitingAtRank_9 : decode cX8_waitingAtRank 9 = .ok (.iconst 0, 1) := by decide +kernel
theorem dX8_waitingAtRank_10 : decode cX8_waitingAtRank 10 = .ok (.istore 4, 2) := by decide +kernel
theorem dX8_waitingAtRank_12 : decode cX8_waitingAtRank 12 = .ok (.iload 4, 2) := by decide +kernel
theorem dX8_waitingAtRank_14 : decode cX8_waitingAtRank 14 = .ok (.aload_n 0, 1) := by decide +kernel
theorem dX8_waitingAtRank_15 : decode cX8_waitingAtRank 15 = .ok (.getfield 43, 3) := by decide +kernel
theorem dX8_waitingAtRank_18 : decode cX8_waitingAtRank 18 = .ok (.if_icmp .ge 48, 3) := by decide +kernel
theorem dX8_waitingAtRank_21 : decode cX8_waitingAtRank 21 = .ok (.aload_n 0, 1) := by decide +kernel
theorem dX8_waitingAtRank_22 : decode cX8_waitingAtRank 22 = .ok (.getfield 25, 3) := by decide +kernel
theorem dX8_waitingAtRank_25 : decode cX8_waitingAtRank 25 = .ok (.iload 4, 2) := by decide +kernel
theorem dX8_waitingAtRank_27 : decode cX8_waitingAtRank 27 = .ok (.aaload, 1) := by decide +kernel
theorem dX8_waitingAtRank_28 : decode cX8_waitingAtRank 28 = .ok (.astore 5, 2) := by decide +kernel
theorem dX8_waitingAtRank_30 : decode cX8_waitingAtRank 30 = .ok (.aload 5, 2) := by decide +kernel
theorem dX8_waitingAtRank_32 : decode cX8_waitingAtRank 32 = .ok (.getfield 154, 3) := by decide +kernel
theorem dX8_waitingAtRank_35 : decode cX8_waitingAtRank 35 = .ok (.bipush 119, 2) := by decide +kernel
theorem dX8_waitingAtRank_37 : decode cX8_waitingAtRank 37 = .ok (.if_icmp .ne 23, 3) := by decide +kernel
theorem dX8_waitingAtRank_40 : decode cX8_waitingAtRank 40 = .ok (.aload 5, 2) := by decide +kernel
theorem dX8_waitingAtRank_42 : decode cX8_waitingAtRank 42 = .ok (.getfield 204, 3) := by decide +kernel
theorem dX8_waitingAtRank_45 : decode cX8_waitingAtRank 45 = .ok (.iload_n 3, 1) := by decide +kernel
theorem dX8_waitingAtRank_46 : decode cX8_waitingAtRank 46 = .ok (.if_icmp .ne 14, 3) := by decide +kernel
theorem dX8_waitingAtRank_49 : decode cX8_waitingAtRank 49 = .ok (.iload_n 2, 1) := by decide +kernel
theorem dX8_waitingAtRank_50 : decode cX8_waitingAtRank 50 = .ok (.iload_n 1, 1) := by decide +kernel
theorem dX8_waitingAtRank_51 : decode cX8_waitingAtRank 51 = .ok (.if_icmp .ne 6, 3) := by decide +kernel
theorem dX8_waitingAtRank_54 : decode cX8_waitingAtRank 54 = .ok (.aload 5, 2) := by decide +kernel
theorem dX8_waitingAtRank_56 : decode cX8_waitingAtRank 56 = .ok (.areturn, 1) := by decide +kernel
theorem dX8_waitingAtRank_57 : decode cX8_waitingAtRank 57 = .ok (.iinc 2 1, 3) := by decide +kernel
theorem dX8_waitingAtRank_60 : decode cX8_waitingAtRank 60 = .ok (.iinc 4 1, 3) := by decide +kernel
theorem dX8_waitingAtRank_63 : decode cX8_waitingAtRank 63 = .ok (.goto (-51), 3) := by decide +kernel
theorem dX8_waitingAtRank_66 : decode cX8_waitingAtRank 66 = .ok (.iinc 3 1, 3) := by decide +kernel
theorem dX8_waitingAtRank_69 : decode cX8_waitingAtRank 69 = .ok (.goto (-65), 3) := by decide +kernel
theorem dX8_waitingAtRank_72 : decode cX8_waitingAtRank 72 = .ok (.aconst_null, 1) := by decide +kernel
theorem dX8_waitingAtRank_73 : decode cX8_waitingAtRank 73 = .ok (.areturn, 1) := by decide +kernel
theorem dX8_nestAtRank_0 : decode cX8_nestAtRank 0 = .ok (.iconst 0, 1) := by decide +kernel
theorem dX8_nestAtRank_1 : decode cX8_nestAtRank 1 = .ok (.istore_n 2, 1) := by decide +kernel
theorem dX8_nestAtRank_2 : decode cX8_nestAtRank 2 = .ok (.iload_n 2, 1) := by decide +kernel
theorem dX8_nestAtRank_3 : decode cX8_nestAtRank 3 = .ok (.aload_n 0, 1) := by decide +kernel
theorem dX8_nestAtRank_4 : decode cX8_nestAtRank 4 = .ok (.getfield 36, 3) := by decide +kernel
theorem dX8_nestAtRank_7 : decode cX8_nestAtRank 7 = .ok (.if_icmp .ge 49, 3) := by decide +kernel
theorem dX8_nestAtRank_10 : decode cX8_nestAtRank 10 = .ok (.iconst 0, 1) := by decide +kernel
theorem dX8_nestAtRank_11 : decode cX8_nestAtRank 11 = .ok (.istore_n 3, 1) := by decide +kernel
theorem dX8_nestAtRank_12 : decode cX8_nestAtRank 12 = .ok (.iconst 0, 1) := by decide +kernel
theorem dX8_nestAtRank_13 : decode cX8_nestAtRank 13 = .ok (.istore 4, 2) := by decide +kernel
theorem dX8_nestAtRank_15 : decode cX8_nestAtRank 15 = .ok (.iload 4, 2) := by decide +kernel
theorem dX8_nestAtRank_17 : decode cX8_nestAtRank 17 = .ok (.aload_n 0, 1) := by decide +kernel
theorem dX8_nestAtRank_18 : decode cX8_nestAtRank 18 = .ok (.getfield 36, 3) := by decide +kernel
theorem dX8_nestAtRank_21 : decode cX8_nestAtRank 21 = .ok (.if_icmp .ge 22, 3) := by decide +kernel
theorem dX8_nestAtRank_24 : decode cX8_nestAtRank 24 = .ok (.aload_n 0, 1) := by decide +kernel
theorem dX8_nestAtRank_25 : decode cX8_nestAtRank 25 = .ok (.iload 4, 2) := by decide +kernel
theorem dX8_nestAtRank_27 : decode cX8_nestAtRank 27 = .ok (.iload_n 2, 1) := by decide +kernel
theorem dX8_nestAtRank_28 : decode cX8_nestAtRank 28 = .ok (.invokevirtual 244, 3) := by decide +kernel
theorem dX8_nestAtRank_31 : decode cX8_nestAtRank 31 = .ok (.ifCond .eq 6, 3) := by decide +kernel
theorem dX8_nestAtRank_34 : decode cX8_nestAtRank 34 = .ok (.iinc 3 1, 3) := by decide +kernel
theorem dX8_nestAtRank_37 : decode cX8_nestAtRank 37 = .ok (.iinc 4 1, 3) := by decide +kernel
theorem dX8_nestAtRank_40 : decode cX8_nestAtRank 40 = .ok (.goto (-25), 3) := by decide +kernel
theorem dX8_nestAtRank_43 : decode cX8_nestAtRank 43 = .ok (.iload_n 3, 1) := by decide +kernel
theorem dX8_nestAtRank_44 : decode cX8_nestAtRank 44 = .ok (.iload_n 1, 1) := by decide +kernel
theorem dX8_nestAtRank_45 : decode cX8_nestAtRank 45 = .ok (.if_icmp .ne 5, 3) := by decide +kernel
theorem dX8_nestAtRank_48 : decode cX8_nestAtRank 48 = .ok (.iload_n 2, 1) := by decide +kernel
theorem dX8_nestAtRank_49 : decode cX8_nestAtRank 49 = .ok (.ireturn, 1) := by decide +kernel
theorem dX8_nestAtRank_50 : decode cX8_nestAtRank 50 = .ok (.iinc 2 1, 3) := by decide +kernel
theorem dX8_nestAtRank_53 : decode cX8_nestAtRank 53 = .ok (.goto (-51), 3) := by decide +kernel
theorem dX8_nestAtRank_56 : decode cX8_nestAtRank 56 = .ok (.iconst (-1), 1) := by decide +kernel
theorem dX8_nestAtRank_57 : decode cX8_nestAtRank 57 = .ok (.ireturn, 1) := by decide +kernel
theorem dX8_ranksBefore_0 : decode cX8_ranksBefore 0 = .ok (.aload_n 0, 1) := by decide +kernel
theorem dX8_ranksBefore_1 : decode cX8_ranksBefore 1 = .ok (.getfield 11, 3) := by decide +kernel
theorem dX8_ranksBefore_4 : decode cX8_ranksBefore 4 = .ok (.iload_n 1, 1) := by decide +kernel
theorem dX8_ranksBefore_5 : decode cX8_ranksBefore 5 = .ok (.aaload, 1) := by decide +kernel
theorem dX8_ranksBefore_6 : decode cX8_ranksBefore 6 = .ok (.getfield 248, 3) := by decide +kernel
theorem dX8_ranksBefore_9 : decode cX8_ranksBefore 9 = .ok (.aload_n 0, 1) := by decide +kernel
theorem dX8_ranksBefore_10 : decode cX8_ranksBefore 10 = .ok (.getfield 11, 3) := by decide +kernel
theorem dX8_ranksBefore_13 : decode cX8_ranksBefore 13 = .ok (.iload_n 2, 1) := by decide +kernel
theorem dX8_ranksBefore_14 : decode cX8_ranksBefore 14 = .ok (.aaload, 1) := by decide +kernel
theorem dX8_ranksBefore_15 : decode cX8_ranksBefore 15 = .ok (.getfield 248, 3) := by decide +kernel
theorem dX8_ranksBefore_18 : decode cX8_ranksBefore 18 = .ok (.if_icmp .eq 30, 3) := by decide +kernel
theorem dX8_ranksBefore_21 : decode cX8_ranksBefore 21 = .ok (.aload_n 0, 1) := by decide +kernel
theorem dX8_ranksBefore_22 : decode cX8_ranksBefore 22 = .ok (.getfield 11, 3) := by decide +kernel
theorem dX8_ranksBefore_25 : decode cX8_ranksBefore 25 = .ok (.iload_n 1, 1) := by decide +kernel
theorem dX8_ranksBefore_26 : decode cX8_ranksBefore 26 = .ok (.aaload, 1) := by decide +kernel
theorem dX8_ranksBefore_27 : decode cX8_ranksBefore 27 = .ok (.getfield 248, 3) := by decide +kernel
theorem dX8_ranksBefore_30 : decode cX8_ranksBefore 30 = .ok (.aload_n 0, 1) := by decide +kernel
theorem dX8_ranksBefore_31 : decode cX8_ranksBefore 31 = .ok (.getfield 11, 3) := by decide +kernel
theorem dX8_ranksBefore_34 : decode cX8_ranksBefore 34 = .ok (.iload_n 2, 1) := by decide +kernel
theorem dX8_ranksBefore_35 : decode cX8_ranksBefore 35 = .ok (.aaload, 1) := by decide +kernel
theorem dX8_ranksBefore_36 : decode cX8_ranksBefore 36 = .ok (.getfield 248, 3) := by decide +kernel
theorem dX8_ranksBefore_39 : decode cX8_ranksBefore 39 = .ok (.if_icmp .le 7, 3) := by decide +kernel
theorem dX8_ranksBefore_42 : decode cX8_ranksBefore 42 = .ok (.iconst 1, 1) := by decide +kernel
theorem dX8_ranksBefore_43 : decode cX8_ranksBefore 43 = .ok (.goto 4, 3) := by decide +kernel
theorem dX8_ranksBefore_46 : decode cX8_ranksBefore 46 = .ok (.iconst 0, 1) := by decide +kernel
theorem dX8_ranksBefore_47 : decode cX8_ranksBefore 47 = .ok (.ireturn, 1) := by decide +kernel
theorem dX8_ranksBefore_48 : decode cX8_ranksBefore 48 = .ok (.aload_n 0, 1) := by decide +kernel
theorem dX8_ranksBefore_49 : decode cX8_ranksBefore 49 = .ok (.getfield 11, 3) := by decide +kernel
theorem dX8_ranksBefore_52 : decode cX8_ranksBefore 52 = .ok (.iload_n 1, 1) := by decide +kernel
theorem dX8_ranksBefore_53 : decode cX8_ranksBefore 53 = .ok (.aaload, 1) := by decide +kernel
theorem dX8_ranksBefore_54 : decode cX8_ranksBefore 54 = .ok (.getfield 201, 3) := by decide +kernel
theorem dX8_ranksBefore_57 : decode cX8_ranksBefore 57 = .ok (.aload_n 0, 1) := by decide +kernel
theorem dX8_ranksBefore_58 : decode cX8_ranksBefore 58 = .ok (.getfield 11, 3) := by decide +kernel
theorem dX8_ranksBefore_61 : decode cX8_ranksBefore 61 = .ok (.iload_n 2, 1) := by decide +kernel
theorem dX8_ranksBefore_62 : decode cX8_ranksBefore 62 = .ok (.aaload, 1) := by decide +kernel
theorem dX8_ranksBefore_63 : decode cX8_ranksBefore 63 = .ok (.getfield 201, 3) := by decide +kernel
theorem dX8_ranksBefore_66 : decode cX8_ranksBefore 66 = .ok (.if_icmp .eq 30, 3) := by decide +kernel
theorem dX8_ranksBefore_69 : decode cX8_ranksBefore 69 = .ok (.aload_n 0, 1) := by decide +kernel
theorem dX8_ranksBefore_70 : decode cX8_ranksBefore 70 = .ok (.getfield 11, 3) := by decide +kernel
theorem dX8_ranksBefore_73 : decode cX8_ranksBefore 73 = .ok (.iload_n 1, 1) := by decide +kernel
theorem dX8_ranksBefore_74 : decode cX8_ranksBefore 74 = .ok (.aaload, 1) := by decide +kernel
theorem dX8_ranksBefore_75 : decode cX8_ranksBefore 75 = .ok (.getfield 201, 3) := by decide +kernel
theorem dX8_ranksBefore_78 : decode cX8_ranksBefore 78 = .ok (.aload_n 0, 1) := by decide +kernel
theorem dX8_ranksBefore_79 : decode cX8_ranksBefore 79 = .ok (.getfield 11, 3) := by decide +kernel
theorem dX8_ranksBefore_82 : decode cX8_ranksBefore 82 = .ok (.iload_n 2, 1) := by decide +kernel
theorem dX8_ranksBefore_83 : decode cX8_ranksBefore 83 = .ok (.aaload, 1) := by decide +kernel
theorem dX8_ranksBefore_84 : decode cX8_ranksBefore 84 = .ok (.getfield 201, 3) := by decide +kernel
theorem dX8_ranksBefore_87 : decode cX8_ranksBefore 87 = .ok (.if_icmp .ge 7, 3) := by decide +kernel
theorem dX8_ranksBefore_90 : decode cX8_ranksBefore 90 = .ok (.iconst 1, 1) := by decide +kernel
theorem dX8_ranksBefore_91 : decode cX8_ranksBefore 91 = .ok (.goto 4, 3) := by decide +kernel
theorem dX8_ranksBefore_94 : decode cX8_ranksBefore 94 = .ok (.iconst 0, 1) := by decide +kernel
theorem dX8_ranksBefore_95 : decode cX8_ranksBefore 95 = .ok (.ireturn, 1) := by decide +kernel
theorem dX8_ranksBefore_96 : decode cX8_ranksBefore 96 = .ok (.iload_n 1, 1) := by decide +kernel
theorem dX8_ranksBefore_97 : decode cX8_ranksBefore 97 = .ok (.iload_n 2, 1) := by decide +kernel
theorem dX8_ranksBefore_98 : decode cX8_ranksBefore 98 = .ok (.if_icmp .ge 7, 3) := by decide +kernel
theorem dX8_ranksBefore_101 : decode cX8_ranksBefore 101 = .ok (.iconst 1, 1) := by decide +kernel
theorem dX8_ranksBefore_102 : decode cX8_ranksBefore 102 = .ok (.goto 4, 3) := by decide +kernel
theorem dX8_ranksBefore_105 : decode cX8_ranksBefore 105 = .ok (.iconst 0, 1) := by decide +kernel
theorem dX8_ranksBefore_106 : decode cX8_ranksBefore 106 = .ok (.ireturn, 1) := by decide +kernel
theorem dX8_sumOfAttempts_0 : decode cX8_sumOfAttempts 0 = .ok (.iconst 0, 1) := by decide +kernel
theorem dX8_sumOfAttempts_1 : decode cX8_sumOfAttempts 1 = .ok (.istore_n 1, 1) := by decide +kernel
theorem dX8_sumOfAttempts_2 : decode cX8_sumOfAttempts 2 = .ok (.iconst 0, 1) := by decide +kernel
theorem dX8_sumOfAttempts_3 : decode cX8_sumOfAttempts 3 = .ok (.istore_n 2, 1) := by decide +kernel
theorem dX8_sumOfAttempts_4 : decode cX8_sumOfAttempts 4 = .ok (.iload_n 2, 1) := by decide +kernel
theorem dX8_sumOfAttempts_5 : decode cX8_sumOfAttempts 5 = .ok (.aload_n 0, 1) := by decide +kernel
theorem dX8_sumOfAttempts_6 : decode cX8_sumOfAttempts 6 = .ok (.getfield 43, 3) := by decide +kernel
theorem dX8_sumOfAttempts_9 : decode cX8_sumOfAttempts 9 = .ok (.if_icmp .ge 21, 3) := by decide +kernel
theorem dX8_sumOfAttempts_12 : decode cX8_sumOfAttempts 12 = .ok (.iload_n 1, 1) := by decide +kernel
theorem dX8_sumOfAttempts_13 : decode cX8_sumOfAttempts 13 = .ok (.aload_n 0, 1) := by decide +kernel
theorem dX8_sumOfAttempts_14 : decode cX8_sumOfAttempts 14 = .ok (.getfield 25, 3) := by decide +kernel
theorem dX8_sumOfAttempts_17 : decode cX8_sumOfAttempts 17 = .ok (.iload_n 2, 1) := by decide +kernel
theorem dX8_sumOfAttempts_18 : decode cX8_sumOfAttempts 18 = .ok (.aaload, 1) := by decide +kernel
theorem dX8_sumOfAttempts_19 : decode cX8_sumOfAttempts 19 = .ok (.getfield 204, 3) := by decide +kernel
theorem dX8_sumOfAttempts_22 : decode cX8_sumOfAttempts 22 = .ok (.iadd, 1) := by decide +kernel
theorem dX8_sumOfAttempts_23 : decode cX8_sumOfAttempts 23 = .ok (.istore_n 1, 1) := by decide +kernel
theorem dX8_sumOfAttempts_24 : decode cX8_sumOfAttempts 24 = .ok (.iinc 2 1, 3) := by decide +kernel
theorem dX8_sumOfAttempts_27 : decode cX8_sumOfAttempts 27 = .ok (.goto (-23), 3) := by decide +kernel
theorem dX8_sumOfAttempts_30 : decode cX8_sumOfAttempts 30 = .ok (.iload_n 1, 1) := by decide +kernel
theorem dX8_sumOfAttempts_31 : decode cX8_sumOfAttempts 31 = .ok (.ireturn, 1) := by decide +kernel
theorem dX8_messagesWithStatus_0 : decode cX8_messagesWithStatus 0 = .ok (.iconst 0, 1) := by decide +kernel
theorem dX8_messagesWithStatus_1 : decode cX8_messagesWithStatus 1 = .ok (.istore_n 2, 1) := by decide +kernel
theorem dX8_messagesWithStatus_2 : decode cX8_messagesWithStatus 2 = .ok (.iconst 0, 1) := by decide +kernel
theorem dX8_messagesWithStatus_3 : decode cX8_messagesWithStatus 3 = .ok (.istore_n 3, 1) := by decide +kernel
theorem dX8_messagesWithStatus_4 : decode cX8_messagesWithStatus 4 = .ok (.iload_n 3, 1) := by decide +kernel
theorem dX8_messagesWithStatus_5 : decode cX8_messagesWithStatus 5 = .ok (.aload_n 0, 1) := by decide +kernel
theorem dX8_messagesWithStatus_6 : decode cX8_messagesWithStatus 6 = .ok (.getfield 43, 3) := by decide +kernel
theorem dX8_messagesWithStatus_9 : decode cX8_messagesWithStatus 9 = .ok (.if_icmp .ge 25, 3) := by decide +kernel
theorem dX8_messagesWithStatus_12 : decode cX8_messagesWithStatus 12 = .ok (.aload_n 0, 1) := by decide +kernel
theorem dX8_messagesWithStatus_13 : decode cX8_messagesWithStatus 13 = .ok (.getfield 25, 3) := by decide +kernel
theorem dX8_messagesWithStatus_16 : decode cX8_messagesWithStatus 16 = .ok (.iload_n 3, 1) := by decide +kernel
theorem dX8_messagesWithStatus_17 : decode cX8_messagesWithStatus 17 = .ok (.aaload, 1) := by decide +kernel
theorem dX8_messagesWithStatus_18 : decode cX8_messagesWithStatus 18 = .ok (.getfield 154, 3) := by decide +kernel
theorem dX8_messagesWithStatus_21 : decode cX8_messagesWithStatus 21 = .ok (.iload_n 1, 1) := by decide +kernel
theorem dX8_messagesWithStatus_22 : decode cX8_messagesWithStatus 22 = .ok (.if_icmp .ne 6, 3) := by decide +kernel
theorem dX8_messagesWithStatus_25 : decode cX8_messagesWithStatus 25 = .ok (.iinc 2 1, 3) := by decide +kernel
theorem dX8_messagesWithStatus_28 : decode cX8_messagesWithStatus 28 = .ok (.iinc 3 1, 3) := by decide +kernel
theorem dX8_messagesWithStatus_31 : decode cX8_messagesWithStatus 31 = .ok (.goto (-27), 3) := by decide +kernel
theorem dX8_messagesWithStatus_34 : decode cX8_messagesWithStatus 34 = .ok (.iload_n 2, 1) := by decide +kernel
theorem dX8_messagesWithStatus_35 : decode cX8_messagesWithStatus 35 = .ok (.ireturn, 1) := by decide +kernel
theorem dX8_flyingCrows_0 : decode cX8_flyingCrows 0 = .ok (.iconst 0, 1) := by decide +kernel
theorem dX8_flyingCrows_1 : decode cX8_flyingCrows 1 = .ok (.istore_n 1, 1) := by decide +kernel
theorem dX8_flyingCrows_2 : decode cX8_flyingCrows 2 = .ok (.iconst 0, 1) := by decide +kernel
theorem dX8_flyingCrows_3 : decode cX8_flyingCrows 3 = .ok (.istore_n 2, 1) := by decide +kernel
theorem dX8_flyingCrows_4 : decode cX8_flyingCrows 4 = .ok (.iload_n 2, 1) := by decide +kernel
theorem dX8_flyingCrows_5 : decode cX8_flyingCrows 5 = .ok (.aload_n 0, 1) := by decide +kernel
theorem dX8_flyingCrows_6 : decode cX8_flyingCrows 6 = .ok (.getfield 40, 3) := by decide +kernel
theorem dX8_flyingCrows_9 : decode cX8_flyingCrows 9 = .ok (.if_icmp .ge 24, 3) := by decide +kernel
theorem dX8_flyingCrows_12 : decode cX8_flyingCrows 12 = .ok (.aload_n 0, 1) := by decide +kernel
theorem dX8_flyingCrows_13 : decode cX8_flyingCrows 13 = .ok (.getfield 19, 3) := by decide +kernel
theorem dX8_flyingCrows_16 : decode cX8_flyingCrows 16 = .ok (.iload_n 2, 1) := by decide +kernel
theorem dX8_flyingCrows_17 : decode cX8_flyingCrows 17 = .ok (.aaload, 1) := by decide +kernel
theorem dX8_flyingCrows_18 : decode cX8_flyingCrows 18 = .ok (.getfield 122, 3) := by decide +kernel
theorem dX8_flyingCrows_21 : decode cX8_flyingCrows 21 = .ok (.ifCond .eq 6, 3) := by decide +kernel
theorem dX8_flyingCrows_24 : decode cX8_flyingCrows 24 = .ok (.iinc 1 1, 3) := by decide +kernel
theorem dX8_flyingCrows_27 : decode cX8_flyingCrows 27 = .ok (.iinc 2 1, 3) := by decide +kernel
theorem dX8_flyingCrows_30 : decode cX8_flyingCrows 30 = .ok (.goto (-26), 3) := by decide +kernel
theorem dX8_flyingCrows_33 : decode cX8_flyingCrows 33 = .ok (.iload_n 1, 1) := by decide +kernel
theorem dX8_flyingCrows_34 : decode cX8_flyingCrows 34 = .ok (.ireturn, 1) := by decide +kernel
theorem dX8_messagesInInboxes_0 : decode cX8_messagesInInboxes 0 = .ok (.iconst 0, 1) := by decide +kernel
theorem dX8_messagesInInboxes_1 : decode cX8_messagesInInboxes 1 = .ok (.istore_n 1, 1) := by decide +kernel
theorem dX8_messagesInInboxes_2 : decode cX8_messagesInInboxes 2 = .ok (.iconst 0, 1) := by decide +kernel
theorem dX8_messagesInInboxes_3 : decode cX8_messagesInInboxes 3 = .ok (.istore_n 2, 1) := by decide +kernel
theorem dX8_messagesInInboxes_4 : decode cX8_messagesInInboxes 4 = .ok (.iload_n 2, 1) := by decide +kernel
theorem dX8_messagesInInboxes_5 : decode cX8_messagesInInboxes 5 = .ok (.aload_n 0, 1) := by decide +kernel
theorem dX8_messagesInInboxes_6 : decode cX8_messagesInInboxes 6 = .ok (.getfield 36, 3) := by decide +kernel
theorem dX8_messagesInInboxes_9 : decode cX8_messagesInInboxes 9 = .ok (.if_icmp .ge 21, 3) := by decide +kernel
theorem dX8_messagesInInboxes_12 : decode cX8_messagesInInboxes 12 = .ok (.iload_n 1, 1) := by decide +kernel
theorem dX8_messagesInInboxes_13 : decode cX8_messagesInInboxes 13 = .ok (.aload_n 0, 1) := by decide +kernel
theorem dX8_messagesInInboxes_14 : decode cX8_messagesInInboxes 14 = .ok (.getfield 11, 3) := by decide +kernel
theorem dX8_messagesInInboxes_17 : decode cX8_messagesInInboxes 17 = .ok (.iload_n 2, 1) := by decide +kernel
theorem dX8_messagesInInboxes_18 : decode cX8_messagesInInboxes 18 = .ok (.aaload, 1) := by decide +kernel
theorem dX8_messagesInInboxes_19 : decode cX8_messagesInInboxes 19 = .ok (.getfield 137, 3) := by decide +kernel
theorem dX8_messagesInInboxes_22 : decode cX8_messagesInInboxes 22 = .ok (.iadd, 1) := by decide +kernel
theorem dX8_messagesInInboxes_23 : decode cX8_messagesInInboxes 23 = .ok (.istore_n 1, 1) := by decide +kernel
theorem dX8_messagesInInboxes_24 : decode cX8_messagesInInboxes 24 = .ok (.iinc 2 1, 3) := by decide +kernel
theorem dX8_messagesInInboxes_27 : decode cX8_messagesInInboxes 27 = .ok (.goto (-23), 3) := by decide +kernel
theorem dX8_messagesInInboxes_30 : decode cX8_messagesInInboxes 30 = .ok (.iload_n 1, 1) := by decide +kernel
theorem dX8_messagesInInboxes_31 : decode cX8_messagesInInboxes 31 = .ok (.ireturn, 1) := by decide +kernel
theorem dX9_init_0 : decode cX9_init 0 = .ok (.aload_n 0, 1) := by decide +kernel
theorem dX9_init_1 : decode cX9_init 1 = .ok (.invokespecial 1, 3) := by decide +kernel
theorem dX9_init_4 : decode cX9_init 4 = .ok (.aload_n 0, 1) := by decide +kernel
theorem dX9_init_5 : decode cX9_init 5 = .ok (.iconst 0, 1) := by decide +kernel
theorem dX9_init_6 : decode cX9_init 6 = .ok (.putfield 7, 3) := by decide +kernel
theorem dX9_init_9 : decode cX9_init 9 = .ok (.aload_n 0, 1) := by decide +kernel
theorem dX9_init_10 : decode cX9_init 10 = .ok (.iconst 0, 1) := by decide +kernel
theorem dX9_init_11 : decode cX9_init 11 = .ok (.putfield 13, 3) := by decide +kernel
theorem dX9_init_14 : decode cX9_init 14 = .ok (.aload_n 0, 1) := by decide +kernel
theorem dX9_init_15 : decode cX9_init 15 = .ok (.iconst 0, 1) := by decide +kernel
theorem dX9_init_16 : decode cX9_init 16 = .ok (.putfield 16, 3) := by decide +kernel
theorem dX9_init_19 : decode cX9_init 19 = .ok (.aload_n 0, 1) := by decide +kernel
theorem dX9_init_20 : decode cX9_init 20 = .ok (.iconst 0, 1) := by decide +kernel
theorem dX9_init_21 : decode cX9_init 21 = .ok (.putfield 19, 3) := by decide +kernel
theorem dX9_init_24 : decode cX9_init 24 = .ok (.aload_n 0, 1) := by decide +kernel
theorem dX9_init_25 : decode cX9_init 25 = .ok (.iconst 0, 1) := by decide +kernel
theorem dX9_init_26 : decode cX9_init 26 = .ok (.putfield 22, 3) := by decide +kernel
theorem dX9_init_29 : decode cX9_init 29 = .ok (.aload_n 0, 1) := by decide +kernel
theorem dX9_init_30 : decode cX9_init 30 = .ok (.iconst 0, 1) := by decide +kernel
theorem dX9_init_31 : decode cX9_init 31 = .ok (.putfield 25, 3) := by decide +kernel
theorem dX9_init_34 : decode cX9_init 34 = .ok (.aload_n 0, 1) := by decide +kernel
theorem dX9_init_35 : decode cX9_init 35 = .ok (.iconst 0, 1) := by decide +kernel
theorem dX9_init_36 : decode cX9_init 36 = .ok (.putfield 28, 3) := by decide +kernel
theorem dX9_init_39 : decode cX9_init 39 = .ok (.return_, 1) := by decide +kernel
theorem dX9_existing_0 : decode cX9_existing 0 = .ok (.aload_n 0, 1) := by decide +kernel
theorem dX9_existing_1 : decode cX9_existing 1 = .ok (.getfield 7, 3) := by decide +kernel
theorem dX9_existing_4 : decode cX9_existing 4 = .ok (.aload_n 0, 1) := by decide +kernel
theorem dX9_existing_5 : decode cX9_existing 5 = .ok (.getfield 16, 3) := by decide +kernel
theorem dX9_existing_8 : decode cX9_existing 8 = .ok (.isub, 1) := by decide +kernel
theorem dX9_existing_9 : decode cX9_existing 9 = .ok (.aload_n 0, 1) := by decide +kernel
theorem dX9_existing_10 : decode cX9_existing 10 = .ok (.getfield 19, 3) := by decide +kernel
theorem dX9_existing_13 : decode cX9_existing 13 = .ok (.isub, 1) := by decide +kernel
theorem dX9_existing_14 : decode cX9_existing 14 = .ok (.aload_n 0, 1) := by decide +kernel
theorem dX9_existing_15 : decode cX9_existing 15 = .ok (.getfield 22, 3) := by decide +kernel
theorem dX9_existing_18 : decode cX9_existing 18 = .ok (.isub, 1) := by decide +kernel
theorem dX9_existing_19 : decode cX9_existing 19 = .ok (.aload_n 0, 1) := by decide +kernel
theorem dX9_existing_20 : decode cX9_existing 20 = .ok (.getfield 25, 3) := by decide +kernel
theorem dX9_existing_23 : decode cX9_existing 23 = .ok (.isub, 1) := by decide +kernel
theorem dX9_existing_24 : decode cX9_existing 24 = .ok (.ireturn, 1) := by decide +kernel
theorem dX9_copyFrom_0 : decode cX9_copyFrom 0 = .ok (.aload_n 0, 1) := by decide +kernel
theorem dX9_copyFrom_1 : decode cX9_copyFrom 1 = .ok (.aload_n 1, 1) := by decide +kernel
theorem dX9_copyFrom_2 : decode cX9_copyFrom 2 = .ok (.getfield 7, 3) := by decide +kernel
theorem dX9_copyFrom_5 : decode cX9_copyFrom 5 = .ok (.putfield 7, 3) := by decide +kernel
theorem dX9_copyFrom_8 : decode cX9_copyFrom 8 = .ok (.aload_n 0, 1) := by decide +kernel
theorem dX9_copyFrom_9 : decode cX9_copyFrom 9 = .ok (.aload_n 1, 1) := by decide +kernel
theorem dX9_copyFrom_10 : decode cX9_copyFrom 10 = .ok (.getfield 13, 3) := by decide +kernel
theorem dX9_copyFrom_13 : decode cX9_copyFrom 13 = .ok (.putfield 13, 3) := by decide +kernel
theorem dX9_copyFrom_16 : decode cX9_copyFrom 16 = .ok (.aload_n 0, 1) := by decide +kernel
theorem dX9_copyFrom_17 : decode cX9_copyFrom 17 = .ok (.aload_n 1, 1) := by decide +kernel
theorem dX9_copyFrom_18 : decode cX9_copyFrom 18 = .ok (.getfield 16, 3) := by decide +kernel
theorem dX9_copyFrom_21 : decode cX9_copyFrom 21 = .ok (.putfield 16, 3) := by decide +kernel
theorem dX9_copyFrom_24 : decode cX9_copyFrom 24 = .ok (.aload_n 0, 1) := by decide +kernel
theorem dX9_copyFrom_25 : decode cX9_copyFrom 25 = .ok (.aload_n 1, 1) := by decide +kernel
theorem dX9_copyFrom_26 : decode cX9_copyFrom 26 = .ok (.getfield 19, 3) := by decide +kernel
theorem dX9_copyFrom_29 : decode cX9_copyFrom 29 = .ok (.putfield 19, 3) := by decide +kernel
theorem dX9_copyFrom_32 : decode cX9_copyFrom 32 = .ok (.aload_n 0, 1) := by decide +kernel
theorem dX9_copyFrom_33 : decode cX9_copyFrom 33 = .ok (.aload_n 1, 1) := by decide +kernel
theorem dX9_copyFrom_34 : decode cX9_copyFrom 34 = .ok (.getfield 22, 3) := by decide +kernel
theorem dX9_copyFrom_37 : decode cX9_copyFrom 37 = .ok (.putfield 22, 3) := by decide +kernel
theorem dX9_copyFrom_40 : decode cX9_copyFrom 40 = .ok (.aload_n 0, 1) := by decide +kernel
theorem dX9_copyFrom_41 : decode cX9_copyFrom 41 = .ok (.aload_n 1, 1) := by decide +kernel
theorem dX9_copyFrom_42 : decode cX9_copyFrom 42 = .ok (.getfield 25, 3) := by decide +kernel
theorem dX9_copyFrom_45 : decode cX9_copyFrom 45 = .ok (.putfield 25, 3) := by decide +kernel
theorem dX9_copyFrom_48 : decode cX9_copyFrom 48 = .ok (.aload_n 0, 1) := by decide +kernel
theorem dX9_copyFrom_49 : decode cX9_copyFrom 49 = .ok (.aload_n 1, 1) := by decide +kernel
theorem dX9_copyFrom_50 : decode cX9_copyFrom 50 = .ok (.getfield 28, 3) := by decide +kernel
theorem dX9_copyFrom_53 : decode cX9_copyFrom 53 = .ok (.putfield 28, 3) := by decide +kernel
theorem dX9_copyFrom_56 : decode cX9_copyFrom 56 = .ok (.return_, 1) := by decide +kernel
theorem dX10_init_0 : decode cX10_init 0 = .ok (.aload_n 0, 1) := by decide +kernel
theorem dX10_init_1 : decode cX10_init 1 = .ok (.invokespecial 1, 3) := by decide +kernel
theorem dX10_init_4 : decode cX10_init 4 = .ok (.aload_n 0, 1) := by decide +kernel
theorem dX10_init_5 : decode cX10_init 5 = .ok (.new 7, 3) := by decide +kernel
theorem dX10_init_8 : decode cX10_init 8 = .ok (.dup, 1) := by decide +kernel
theorem dX10_init_9 : decode cX10_init 9 = .ok (.invokespecial 9, 3) := by decide +kernel
theorem dX10_init_12 : decode cX10_init 12 = .ok (.putfield 10, 3) := by decide +kernel
theorem dX10_init_15 : decode cX10_init 15 = .ok (.aload_n 0, 1) := by decide +kernel
theorem dX10_init_16 : decode cX10_init 16 = .ok (.new 7, 3) := by decide +kernel
theorem dX10_init_19 : decode cX10_init 19 = .ok (.dup, 1) := by decide +kernel
theorem dX10_init_20 : decode cX10_init 20 = .ok (.invokespecial 9, 3) := by decide +kernel
theorem dX10_init_23 : decode cX10_init 23 = .ok (.putfield 16, 3) := by decide +kernel
theorem dX10_init_26 : decode cX10_init 26 = .ok (.aload_n 0, 1) := by decide +kernel
theorem dX10_init_27 : decode cX10_init 27 = .ok (.new 7, 3) := by decide +kernel
theorem dX10_init_30 : decode cX10_init 30 = .ok (.dup, 1) := by decide +kernel
theorem dX10_init_31 : decode cX10_init 31 = .ok (.invokespecial 9, 3) := by decide +kernel
theorem dX10_init_34 : decode cX10_init 34 = .ok (.putfield 19, 3) := by decide +kernel
theorem dX10_init_37 : decode cX10_init 37 = .ok (.aload_n 0, 1) := by decide +kernel
theorem dX10_init_38 : decode cX10_init 38 = .ok (.new 7, 3) := by decide +kernel
theorem dX10_init_41 : decode cX10_init 41 = .ok (.dup, 1) := by decide +kernel
theorem dX10_init_42 : decode cX10_init 42 = .ok (.invokespecial 9, 3) := by decide +kernel
theorem dX10_init_45 : decode cX10_init 45 = .ok (.putfield 22, 3) := by decide +kernel
theorem dX10_init_48 : decode cX10_init 48 = .ok (.aload_n 0, 1) := by decide +kernel
theorem dX10_init_49 : decode cX10_init 49 = .ok (.new 25, 3) := by decide +kernel
theorem dX10_init_52 : decode cX10_init 52 = .ok (.dup, 1) := by decide +kernel
theorem dX10_init_53 : decode cX10_init 53 = .ok (.invokespecial 27, 3) := by decide +kernel
theorem dX10_init_56 : decode cX10_init 56 = .ok (.putfield 28, 3) := by decide +kernel
theorem dX10_init_59 : decode cX10_init 59 = .ok (.aload_n 0, 1) := by decide +kernel
theorem dX10_init_60 : decode cX10_init 60 = .ok (.new 32, 3) := by decide +kernel
theorem dX10_init_63 : decode cX10_init 63 = .ok (.dup, 1) := by decide +kernel
theorem dX10_init_64 : decode cX10_init 64 = .ok (.invokespecial 34, 3) := by decide +kernel
theorem dX10_init_67 : decode cX10_init 67 = .ok (.putfield 35, 3) := by decide +kernel
theorem dX10_init_70 : decode cX10_init 70 = .ok (.aload_n 0, 1) := by decide +kernel
theorem dX10_init_71 : decode cX10_init 71 = .ok (.new 39, 3) := by decide +kernel
theorem dX10_init_74 : decode cX10_init 74 = .ok (.dup, 1) := by decide +kernel
theorem dX10_init_75 : decode cX10_init 75 = .ok (.invokespecial 41, 3) := by decide +kernel
theorem dX10_init_78 : decode cX10_init 78 = .ok (.putfield 42, 3) := by decide +kernel
theorem dX10_init_81 : decode cX10_init 81 = .ok (.aload_n 0, 1) := by decide +kernel
theorem dX10_init_82 : decode cX10_init 82 = .ok (.iconst 0, 1) := by decide +kernel
theorem dX10_init_83 : decode cX10_init 83 = .ok (.putfield 46, 3) := by decide +kernel
theorem dX10_init_86 : decode cX10_init 86 = .ok (.aload_n 0, 1) := by decide +kernel
theorem dX10_init_87 : decode cX10_init 87 = .ok (.iconst (-1), 1) := by decide +kernel
theorem dX10_init_88 : decode cX10_init 88 = .ok (.putfield 50, 3) := by decide +kernel
theorem dX10_init_91 : decode cX10_init 91 = .ok (.aload_n 0, 1) := by decide +kernel
theorem dX10_init_92 : decode cX10_init 92 = .ok (.iconst (-1), 1) := by decide +kernel
theorem dX10_init_93 : decode cX10_init 93 = .ok (.putfield 54, 3) := by decide +kernel
theorem dX10_init_96 : decode cX10_init 96 = .ok (.return_, 1) := by decide +kernel
theorem dX10_addNest_0 : decode cX10_addNest 0 = .ok (.aload_n 0, 1) := by decide +kernel
theorem dX10_addNest_1 : decode cX10_addNest 1 = .ok (.getfield 16, 3) := by decide +kernel
theorem dX10_addNest_4 : decode cX10_addNest 4 = .ok (.aload_n 0, 1) := by decide +kernel
theorem dX10_addNest_5 : decode cX10_addNest 5 = .ok (.getfield 10, 3) := by decide +kernel
theorem dX10_addNest_8 : decode cX10_addNest 8 = .ok (.invokevirtual 57, 3) := by decide +kernel
theorem dX10_addNest_11 : decode cX10_addNest 11 = .ok (.aload_n 0, 1) := by decide +kernel
theorem dX10_addNest_12 : decode cX10_addNest 12 = .ok (.aload_n 0, 1) := by decide +kernel
theorem dX10_addNest_13 : decode cX10_addNest 13 = .ok (.getfield 10, 3) := by decide +kernel
theorem dX10_addNest_16 : decode cX10_addNest 16 = .ok (.iload_n 1, 1) := by decide +kernel
theorem dX10_addNest_17 : decode cX10_addNest 17 = .ok (.iload_n 2, 1) := by decide +kernel
theorem dX10_addNest_18 : decode cX10_addNest 18 = .ok (.invokevirtual 61, 3) := by decide +kernel
theorem dX10_addNest_21 : decode cX10_addNest 21 = .ok (.invokevirtual 65, 3) := by decide +kernel
theorem dX10_addNest_24 : decode cX10_addNest 24 = .ok (.ireturn, 1) := by decide +kernel
theorem dX10_addCrow_0 : decode cX10_addCrow 0 = .ok (.aload_n 0, 1) := by decide +kernel
theorem dX10_addCrow_1 : decode cX10_addCrow 1 = .ok (.getfield 16, 3) := by decide +kernel
theorem dX10_addCrow_4 : decode cX10_addCrow 4 = .ok (.aload_n 0, 1) := by decide +kernel
theorem dX10_addCrow_5 : decode cX10_addCrow 5 = .ok (.getfield 10, 3) := by decide +kernel
theorem dX10_addCrow_8 : decode cX10_addCrow 8 = .ok (.invokevirtual 57, 3) := by decide +kernel
theorem dX10_addCrow_11 : decode cX10_addCrow 11 = .ok (.aload_n 0, 1) := by decide +kernel
theorem dX10_addCrow_12 : decode cX10_addCrow 12 = .ok (.aload_n 0, 1) := by decide +kernel
theorem dX10_addCrow_13 : decode cX10_addCrow 13 = .ok (.getfield 10, 3) := by decide +kernel
theorem dX10_addCrow_16 : decode cX10_addCrow 16 = .ok (.invokevirtual 69, 3) := by decide +kernel
theorem dX10_addCrow_19 : decode cX10_addCrow 19 = .ok (.invokevirtual 65, 3) := by decide +kernel
theorem dX10_addCrow_22 : decode cX10_addCrow 22 = .ok (.ireturn, 1) := by decide +kernel
theorem dX10_publish_0 : decode cX10_publish 0 = .ok (.aload_n 0, 1) := by decide +kernel
theorem dX10_publish_1 : decode cX10_publish 1 = .ok (.getfield 16, 3) := by decide +kernel
theorem dX10_publish_4 : decode cX10_publish 4 = .ok (.aload_n 0, 1) := by decide +kernel
theorem dX10_publish_5 : decode cX10_publish 5 = .ok (.getfield 10, 3) := by decide +kernel
theorem dX10_publish_8 : decode cX10_publish 8 = .ok (.invokevirtual 57, 3) := by decide +kernel
theorem dX10_publish_11 : decode cX10_publish 11 = .ok (.aload_n 0, 1) := by decide +kernel
theorem dX10_publish_12 : decode cX10_publish 12 = .ok (.aload_n 0, 1) := by decide +kernel
theorem dX10_publish_13 : decode cX10_publish 13 = .ok (.getfield 10, 3) := by decide +kernel
theorem dX10_publish_16 : decode cX10_publish 16 = .ok (.iload_n 1, 1) := by decide +kernel
theorem dX10_publish_17 : decode cX10_publish 17 = .ok (.iload_n 2, 1) := by decide +kernel
theorem dX10_publish_18 : decode cX10_publish 18 = .ok (.invokevirtual 73, 3) := by decide +kernel
theorem dX10_publish_21 : decode cX10_publish 21 = .ok (.invokevirtual 65, 3) := by decide +kernel
theorem dX10_publish_24 : decode cX10_publish 24 = .ok (.ireturn, 1) := by decide +kernel
theorem dX10_read_0 : decode cX10_read 0 = .ok (.aload_n 0, 1) := by decide +kernel
theorem dX10_read_1 : decode cX10_read 1 = .ok (.getfield 16, 3) := by decide +kernel
theorem dX10_read_4 : decode cX10_read 4 = .ok (.aload_n 0, 1) := by decide +kernel
theorem dX10_read_5 : decode cX10_read 5 = .ok (.getfield 10, 3) := by decide +kernel
theorem dX10_read_8 : decode cX10_read 8 = .ok (.invokevirtual 57, 3) := by decide +kernel
theorem dX10_read_11 : decode cX10_read 11 = .ok (.aload_n 0, 1) := by decide +kernel
theorem dX10_read_12 : decode cX10_read 12 = .ok (.aload_n 0, 1) := by decide +kernel
theorem dX10_read_13 : decode cX10_read 13 = .ok (.getfield 10, 3) := by decide +kernel
theorem dX10_read_16 : decode cX10_read 16 = .ok (.iload_n 1, 1) := by decide +kernel
theorem dX10_read_17 : decode cX10_read 17 = .ok (.invokevirtual 76, 3) := by decide +kernel
theorem dX10_read_20 : decode cX10_read 20 = .ok (.invokevirtual 65, 3) := by decide +kernel
theorem dX10_read_23 : decode cX10_read 23 = .ok (.ireturn, 1) := by decide +kernel
theorem dX10_cancel_0 : decode cX10_cancel 0 = .ok (.aload_n 0, 1) := by decide +kernel
theorem dX10_cancel_1 : decode cX10_cancel 1 = .ok (.getfield 16, 3) := by decide +kernel
theorem dX10_cancel_4 : decode cX10_cancel 4 = .ok (.aload_n 0, 1) := by decide +kernel
theorem dX10_cancel_5 : decode cX10_cancel 5 = .ok (.getfield 10, 3) := by decide +kernel
theorem dX10_cancel_8 : decode cX10_cancel 8 = .ok (.invokevirtual 57, 3) := by decide +kernel
theorem dX10_cancel_11 : decode cX10_cancel 11 = .ok (.aload_n 0, 1) := by decide +kernel
theorem dX10_cancel_12 : decode cX10_cancel 12 = .ok (.aload_n 0, 1) := by decide +kernel
theorem dX10_cancel_13 : decode cX10_cancel 13 = .ok (.getfield 10, 3) := by decide +kernel
theorem dX10_cancel_16 : decode cX10_cancel 16 = .ok (.iload_n 1, 1) := by decide +kernel
theorem dX10_cancel_17 : decode cX10_cancel 17 = .ok (.invokevirtual 79, 3) := by decide +kernel
theorem dX10_cancel_20 : decode cX10_cancel 20 = .ok (.invokevirtual 65, 3) := by decide +kernel
theorem dX10_cancel_23 : decode cX10_cancel 23 = .ok (.ireturn, 1) := by decide +kernel
theorem dX10_setWind_0 : decode cX10_setWind 0 = .ok (.aload_n 0, 1) := by decide +kernel
theorem dX10_setWind_1 : decode cX10_setWind 1 = .ok (.getfield 16, 3) := by decide +kernel
theorem dX10_setWind_4 : decode cX10_setWind 4 = .ok (.aload_n 0, 1) := by decide +kernel
theorem dX10_setWind_5 : decode cX10_setWind 5 = .ok (.getfield 10, 3) := by decide +kernel
theorem dX10_setWind_8 : decode cX10_setWind 8 = .ok (.invokevirtual 57, 3) := by decide +kernel
theorem dX10_setWind_11 : decode cX10_setWind 11 = .ok (.aload_n 0, 1) := by decide +kernel
theorem dX10_setWind_12 : decode cX10_setWind 12 = .ok (.aload_n 0, 1) := by decide +kernel
theorem dX10_setWind_13 : decode cX10_setWind 13 = .ok (.getfield 10, 3) := by decide +kernel
theorem dX10_setWind_16 : decode cX10_setWind 16 = .ok (.iload_n 1, 1) := by decide +kernel
theorem dX10_setWind_17 : decode cX10_setWind 17 = .ok (.invokevirtual 82, 3) := by decide +kernel
theorem dX10_setWind_20 : decode cX10_setWind 20 = .ok (.invokevirtual 65, 3) := by decide +kernel
theorem dX10_setWind_23 : decode cX10_setWind 23 = .ok (.ireturn, 1) := by decide +kernel
theorem dX10_forget_0 : decode cX10_forget 0 = .ok (.aload_n 0, 1) := by decide +kernel
theorem dX10_forget_1 : decode cX10_forget 1 = .ok (.getfield 16, 3) := by decide +kernel
theorem dX10_forget_4 : decode cX10_forget 4 = .ok (.aload_n 0, 1) := by decide +kernel
theorem dX10_forget_5 : decode cX10_forget 5 = .ok (.getfield 10, 3) := by decide +kernel
theorem dX10_forget_8 : decode cX10_forget 8 = .ok (.invokevirtual 57, 3) := by decide +kernel
theorem dX10_forget_11 : decode cX10_forget 11 = .ok (.aload_n 0, 1) := by decide +kernel
theorem dX10_forget_12 : decode cX10_forget 12 = .ok (.aload_n 0, 1) := by decide +kernel
theorem dX10_forget_13 : decode cX10_forget 13 = .ok (.getfield 10, 3) := by decide +kernel
theorem dX10_forget_16 : decode cX10_forget 16 = .ok (.iload_n 1, 1) := by decide +kernel
theorem dX10_forget_17 : decode cX10_forget 17 = .ok (.invokevirtual 85, 3) := by decide +kernel
theorem dX10_forget_20 : decode cX10_forget 20 = .ok (.invokevirtual 65, 3) := by decide +kernel
theorem dX10_forget_23 : decode cX10_forget 23 = .ok (.ireturn, 1) := by decide +kernel
theorem dX10_advance_0 : decode cX10_advance 0 = .ok (.aload_n 0, 1) := by decide +kernel
theorem dX10_advance_1 : decode cX10_advance 1 = .ok (.getfield 16, 3) := by decide +kernel
theorem dX10_advance_4 : decode cX10_advance 4 = .ok (.aload_n 0, 1) := by decide +kernel
theorem dX10_advance_5 : decode cX10_advance 5 = .ok (.getfield 10, 3) := by decide +kernel
theorem dX10_advance_8 : decode cX10_advance 8 = .ok (.invokevirtual 57, 3) := by decide +kernel
theorem dX10_advance_11 : decode cX10_advance 11 = .ok (.aload_n 0, 1) := by decide +kernel
theorem dX10_advance_12 : decode cX10_advance 12 = .ok (.aload_n 0, 1) := by decide +kernel
theorem dX10_advance_13 : decode cX10_advance 13 = .ok (.getfield 10, 3) := by decide +kernel
theorem dX10_advance_16 : decode cX10_advance 16 = .ok (.iload_n 1, 1) := by decide +kernel
theorem dX10_advance_17 : decode cX10_advance 17 = .ok (.invokevirtual 88, 3) := by decide +kernel
theorem dX10_advance_20 : decode cX10_advance 20 = .ok (.invokevirtual 65, 3) := by decide +kernel
theorem dX10_advance_23 : decode cX10_advance 23 = .ok (.ireturn, 1) := by decide +kernel
theorem dX10_settle_0 : decode cX10_settle 0 = .ok (.iload_n 1, 1) := by decide +kernel
theorem dX10_settle_1 : decode cX10_settle 1 = .ok (.iconst (-1), 1) := by decide +kernel
theorem dX10_settle_2 : decode cX10_settle 2 = .ok (.if_icmp .ne 13, 3) := by decide +kernel
theorem dX10_settle_5 : decode cX10_settle 5 = .ok (.new 91, 3) := by decide +kernel
theorem dX10_settle_8 : decode cX10_settle 8 = .ok (.dup, 1) := by decide +kernel
theorem dX10_settle_9 : decode cX10_settle 9 = .ok (.ldc 93, 2) := by decide +kernel
theorem dX10_settle_11 : decode cX10_settle 11 = .ok (.invokespecial 95, 3) := by decide +kernel
theorem dX10_settle_14 : decode cX10_settle 14 = .ok (.athrow, 1) := by decide +kernel
theorem dX10_settle_15 : decode cX10_settle 15 = .ok (.iload_n 1, 1) := by decide +kernel
theorem dX10_settle_16 : decode cX10_settle 16 = .ok (.bipush (-2), 2) := by decide +kernel
theorem dX10_settle_18 : decode cX10_settle 18 = .ok (.if_icmp .ne 13, 3) := by decide +kernel
theorem dX10_settle_21 : decode cX10_settle 21 = .ok (.new 98, 3) := by decide +kernel
theorem dX10_settle_24 : decode cX10_settle 24 = .ok (.dup, 1) := by decide +kernel
theorem dX10_settle_25 : decode cX10_settle 25 = .ok (.ldc 100, 2) := by decide +kernel
theorem dX10_settle_27 : decode cX10_settle 27 = .ok (.invokespecial 102, 3) := by decide +kernel
theorem dX10_settle_30 : decode cX10_settle 30 = .ok (.athrow, 1) := by decide +kernel
theorem dX10_settle_31 : decode cX10_settle 31 = .ok (.iload_n 1, 1) := by decide +kernel
theorem dX10_settle_32 : decode cX10_settle 32 = .ok (.bipush (-3), 2) := by decide +kernel
theorem dX10_settle_34 : decode cX10_settle 34 = .ok (.if_icmp .ne 13, 3) := by decide +kernel
theorem dX10_settle_37 : decode cX10_settle 37 = .ok (.new 103, 3) := by decide +kernel
theorem dX10_settle_40 : decode cX10_settle 40 = .ok (.dup, 1) := by decide +kernel
theorem dX10_settle_41 : decode cX10_settle 41 = .ok (.ldc 105, 2) := by decide +kernel
theorem dX10_settle_43 : decode cX10_settle 43 = .ok (.invokespecial 107, 3) := by decide +kernel
theorem dX10_settle_46 : decode cX10_settle 46 = .ok (.athrow, 1) := by decide +kernel
theorem dX10_settle_47 : decode cX10_settle 47 = .ok (.iload_n 1, 1) := by decide +kernel
theorem dX10_settle_48 : decode cX10_settle 48 = .ok (.bipush (-4), 2) := by decide +kernel
theorem dX10_settle_50 : decode cX10_settle 50 = .ok (.if_icmp .ne 13, 3) := by decide +kernel
theorem dX10_settle_53 : decode cX10_settle 53 = .ok (.new 108, 3) := by decide +kernel
theorem dX10_settle_56 : decode cX10_settle 56 = .ok (.dup, 1) := by decide +kernel
theorem dX10_settle_57 : decode cX10_settle 57 = .ok (.ldc 110, 2) := by decide +kernel
theorem dX10_settle_59 : decode cX10_settle 59 = .ok (.invokespecial 112, 3) := by decide +kernel
theorem dX10_settle_62 : decode cX10_settle 62 = .ok (.athrow, 1) := by decide +kernel
theorem dX10_settle_63 : decode cX10_settle 63 = .ok (.aload_n 0, 1) := by decide +kernel
theorem dX10_settle_64 : decode cX10_settle 64 = .ok (.getfield 28, 3) := by decide +kernel
theorem dX10_settle_67 : decode cX10_settle 67 = .ok (.aload_n 0, 1) := by decide +kernel
theorem dX10_settle_68 : decode cX10_settle 68 = .ok (.getfield 16, 3) := by decide +kernel
theorem dX10_settle_71 : decode cX10_settle 71 = .ok (.invokevirtual 113, 3) := by decide +kernel
theorem dX10_settle_74 : decode cX10_settle 74 = .ok (.iload_n 1, 1) := by decide +kernel
theorem dX10_settle_75 : decode cX10_settle 75 = .ok (.ireturn, 1) := by decide +kernel
theorem dX10_nestCount_0 : decode cX10_nestCount 0 = .ok (.aload_n 0, 1) := by decide +kernel
theorem dX10_nestCount_1 : decode cX10_nestCount 1 = .ok (.getfield 10, 3) := by decide +kernel
theorem dX10_nestCount_4 : decode cX10_nestCount 4 = .ok (.getfield 116, 3) := by decide +kernel
theorem dX10_nestCount_7 : decode cX10_nestCount 7 = .ok (.ireturn, 1) := by decide +kernel
theorem dX10_distance_0 : decode cX10_distance 0 = .ok (.aload_n 0, 1) := by decide +kernel
theorem dX10_distance_1 : decode cX10_distance 1 = .ok (.iload_n 1, 1) := by decide +kernel
theorem dX10_distance_2 : decode cX10_distance 2 = .ok (.invokevirtual 119, 3) := by decide +kernel
theorem dX10_distance_5 : decode cX10_distance 5 = .ok (.getfield 123, 3) := by decide +kernel
theorem dX10_distance_8 : decode cX10_distance 8 = .ok (.ireturn, 1) := by decide +kernel
theorem dX10_loss_0 : decode cX10_loss 0 = .ok (.aload_n 0, 1) := by decide +kernel
theorem dX10_loss_1 : decode cX10_loss 1 = .ok (.iload_n 1, 1) := by decide +kernel
theorem dX10_loss_2 : decode cX10_loss 2 = .ok (.invokevirtual 119, 3) := by decide +kernel
theorem dX10_loss_5 : decode cX10_loss 5 = .ok (.getfield 128, 3) := by decide +kernel
theorem dX10_loss_8 : decode cX10_loss 8 = .ok (.ireturn, 1) := by decide +kernel
theorem dX10_inboxSize_0 : decode cX10_inboxSize 0 = .ok (.aload_n 0, 1) := by decide +kernel
theorem dX10_inboxSize_1 : decode cX10_inboxSize 1 = .ok (.iload_n 1, 1) := by decide +kernel
theorem dX10_inboxSize_2 : decode cX10_inboxSize 2 = .ok (.invokevirtual 119, 3) := by decide +kernel
theorem dX10_inboxSize_5 : decode cX10_inboxSize 5 = .ok (.getfield 131, 3) := by decide +kernel
theorem dX10_inboxSize_8 : decode cX10_inboxSize 8 = .ok (.ireturn, 1) := by decide +kernel
theorem dX10_inboxMessage_0 : decode cX10_inboxMessage 0 = .ok (.aload_n 0, 1) := by decide +kernel
theorem dX10_inboxMessage_1 : decode cX10_inboxMessage 1 = .ok (.iload_n 1, 1) := by decide +kernel
theorem dX10_inboxMessage_2 : decode cX10_inboxMessage 2 = .ok (.invokevirtual 119, 3) := by decide +kernel
theorem dX10_inboxMessage_5 : decode cX10_inboxMessage 5 = .ok (.astore_n 3, 1) := by decide +kernel
theorem dX10_inboxMessage_6 : decode cX10_inboxMessage 6 = .ok (.iload_n 2, 1) := by decide +kernel
theorem dX10_inboxMessage_7 : decode cX10_inboxMessage 7 = .ok (.ifCond .lt 11, 3) := by decide +kernel
theorem dX10_inboxMessage_10 : decode cX10_inboxMessage 10 = .ok (.iload_n 2, 1) := by decide +kernel
theorem dX10_inboxMessage_11 : decode cX10_inboxMessage 11 = .ok (.aload_n 3, 1) := by decide +kernel
theorem dX10_inboxMessage_12 : decode cX10_inboxMessage 12 = .ok (.getfield 131, 3) := by decide +kernel
theorem dX10_inboxMessage_15 : decode cX10_inboxMessage 15 = .ok (.if_icmp .lt 13, 3) := by decide +kernel
theorem dX10_inboxMessage_18 : decode cX10_inboxMessage 18 = .ok (.new 108, 3) := by decide +kernel
theorem dX10_inboxMessage_21 : decode cX10_inboxMessage 21 = .ok (.dup, 1) := by decide +kernel
theorem dX10_inboxMessage_22 : decode cX10_inboxMessage 22 = .ok (.ldc 134, 2) := by decide +kernel
theorem dX10_inboxMessage_24 : decode cX10_inboxMessage 24 = .ok (.invokespecial 112, 3) := by decide +kernel
theorem dX10_inboxMessage_27 : decode cX10_inboxMessage 27 = .ok (.athrow, 1) := by decide +kernel
theorem dX10_inboxMessage_28 : decode cX10_inboxMessage 28 = .ok (.aload_n 3, 1) := by decide +kernel
theorem dX10_inboxMessage_29 : decode cX10_inboxMessage 29 = .ok (.getfield 136, 3) := by decide +kernel
theorem dX10_inboxMessage_32 : decode cX10_inboxMessage 32 = .ok (.iload_n 2, 1) := by decide +kernel
theorem dX10_inboxMessage_33 : decode cX10_inboxMessage 33 = .ok (.iaload, 1) := by decide +kernel
theorem dX10_inboxMessage_34 : decode cX10_inboxMessage 34 = .ok (.ireturn, 1) := by decide +kernel
theorem dX10_remembers_0 : decode cX10_remembers 0 = .ok (.aload_n 0, 1) := by decide +kernel
theorem dX10_remembers_1 : decode cX10_remembers 1 = .ok (.iload_n 1, 1) := by decide +kernel
theorem dX10_remembers_2 : decode cX10_remembers 2 = .ok (.invokevirtual 119, 3) := by decide +kernel
theorem dX10_remembers_5 : decode cX10_remembers 5 = .ok (.iload_n 2, 1) := by decide +kernel
theorem dX10_remembers_6 : decode cX10_remembers 6 = .ok (.invokevirtual 140, 3) := by decide +kernel
theorem dX10_remembers_9 : decode cX10_remembers 9 = .ok (.ireturn, 1) := by decide +kernel
theorem dX10_rememberedCount_0 : decode cX10_rememberedCount 0 = .ok (.aload_n 0, 1) := by decide +kernel
theorem dX10_rememberedCount_1 : decode cX10_rememberedCount 1 = .ok (.iload_n 1, 1) := by decide +kernel
theorem dX10_rememberedCount_2 : decode cX10_rememberedCount 2 = .ok (.invokevirtual 119, 3) := by decide +kernel
theorem dX10_rememberedCount_5 : decode cX10_rememberedCount 5 = .ok (.getfield 144, 3) := by decide +kernel
theorem dX10_rememberedCount_8 : decode cX10_rememberedCount 8 = .ok (.ireturn, 1) := by decide +kernel
theorem dX10_nestByDeliveries_0 : decode cX10_nestByDeliveries 0 = .ok (.aload_n 0, 1) := by decide +kernel
theorem dX10_nestByDeliveries_1 : decode cX10_nestByDeliveries 1 = .ok (.getfield 10, 3) := by decide +kernel
theorem dX10_nestByDeliveries_4 : decode cX10_nestByDeliveries 4 = .ok (.iload_n 1, 1) := by decide +kernel
theorem dX10_nestByDeliveries_5 : decode cX10_nestByDeliveries 5 = .ok (.invokevirtual 147, 3) := by decide +kernel
theorem dX10_nestByDeliveries_8 : decode cX10_nestByDeliveries 8 = .ok (.istore_n 2, 1) := by decide +kernel
theorem dX10_nestByDeliveries_9 : decode cX10_nestByDeliveries 9 = .ok (.iload_n 2, 1) := by decide +kernel
theorem dX10_nestByDeliveries_10 : decode cX10_nestByDeliveries 10 = .ok (.iconst (-1), 1) := by decide +kernel
theorem dX10_nestByDeliveries_11 : decode cX10_nestByDeliveries 11 = .ok (.if_icmp .ne 13, 3) := by decide +kernel
theorem dX10_nestByDeliveries_14 : decode cX10_nestByDeliveries 14 = .ok (.new 108, 3) := by decide +kernel
theorem dX10_nestByDeliveries_17 : decode cX10_nestByDeliveries 17 = .ok (.dup, 1) := by decide +kernel
theorem dX10_nestByDeliveries_18 : decode cX10_nestByDeliveries 18 = .ok (.ldc 150, 2) := by decide +kernel
theorem dX10_nestByDeliveries_20 : decode cX10_nestByDeliveries 20 = .ok (.invokespecial 112, 3) := by decide +kernel
theorem dX10_nestByDeliveries_23 : decode cX10_nestByDeliveries 23 = .ok (.athrow, 1) := by decide +kernel
theorem dX10_nestByDeliveries_24 : decode cX10_nestByDeliveries 24 = .ok (.iload_n 2, 1) := by decide +kernel
theorem dX10_nestByDeliveries_25 : decode cX10_nestByDeliveries 25 = .ok (.ireturn, 1) := by decide +kernel
theorem dX10_existingNest_0 : decode cX10_existingNest 0 = .ok (.aload_n 0, 1) := by decide +kernel
theorem dX10_existingNest_1 : decode cX10_existingNest 1 = .ok (.getfield 10, 3) := by decide +kernel
theorem dX10_existingNest_4 : decode cX10_existingNest 4 = .ok (.iload_n 1, 1) := by decide +kernel
theorem dX10_existingNest_5 : decode cX10_existingNest 5 = .ok (.invokevirtual 152, 3) := by decide +kernel
theorem dX10_existingNest_8 : decode cX10_existingNest 8 = .ok (.astore_n 2, 1) := by decide +kernel
theorem dX10_existingNest_9 : decode cX10_existingNest 9 = .ok (.aload_n 2, 1) := by decide +kernel
theorem dX10_existingNest_10 : decode cX10_existingNest 10 = .ok (.ifnonnull 13, 3) := by decide +kernel
theorem dX10_existingNest_13 : decode cX10_existingNest 13 = .ok (.new 103, 3) := by decide +kernel
theorem dX10_existingNest_16 : decode cX10_existingNest 16 = .ok (.dup, 1) := by decide +kernel
theorem dX10_existingNest_17 : decode cX10_existingNest 17 = .ok (.ldc 105, 2) := by decide +kernel
theorem dX10_existingNest_19 : decode cX10_existingNest 19 = .ok (.invokespecial 107, 3) := by decide +kernel
theorem dX10_existingNest_22 : decode cX10_existingNest 22 = .ok (.athrow, 1) := by decide +kernel
theorem dX10_existingNest_23 : decode cX10_existingNest 23 = .ok (.aload_n 2, 1) := by decide +kernel
theorem dX10_existingNest_24 : decode cX10_existingNest 24 = .ok (.areturn, 1) := by decide +kernel
theorem dX10_crowCount_0 : decode cX10_crowCount 0 = .ok (.aload_n 0, 1) := by decide +kernel
theorem dX10_crowCount_1 : decode cX10_crowCount 1 = .ok (.getfield 10, 3) := by decide +kernel
theorem dX10_crowCount_4 : decode cX10_crowCount 4 = .ok (.getfield 155, 3) := by decide +kernel
theorem dX10_crowCount_7 : decode cX10_crowCount 7 = .ok (.ireturn, 1) := by decide +kernel
theorem dX10_isFlying_0 : decode cX10_isFlying 0 = .ok (.aload_n 0, 1) := by decide +kernel
theorem dX10_isFlying_1 : decode cX10_isFlying 1 = .ok (.iload_n 1, 1) := by decide +kernel
theorem dX10_isFlying_2 : decode cX10_isFlying 2 = .ok (.invokevirtual 158, 3) := by decide +kernel
theorem dX10_isFlying_5 : decode cX10_isFlying 5 = .ok (.getfield 162, 3) := by decide +kernel
theorem dX10_isFlying_8 : decode cX10_isFlying 8 = .ok (.ireturn, 1) := by decide +kernel
theorem dX10_carriedMessage_0 : decode cX10_carriedMessage 0 = .ok (.aload_n 0, 1) := by decide +kernel
theorem dX10_carriedMessage_1 : decode cX10_carriedMessage 1 = .ok (.iload_n 1, 1) := by decide +kernel
theorem dX10_carriedMessage_2 : decode cX10_carriedMessage 2 = .ok (.invokevirtual 158, 3) := by decide +kernel
theorem dX10_carriedMessage_5 : decode cX10_carriedMessage 5 = .ok (.astore_n 2, 1) := by decide +kernel
theorem dX10_carriedMessage_6 : decode cX10_carriedMessage 6 = .ok (.aload_n 2, 1) := by decide +kernel
theorem dX10_carriedMessage_7 : decode cX10_carriedMessage 7 = .ok (.getfield 162, 3) := by decide +kernel
theorem dX10_carriedMessage_10 : decode cX10_carriedMessage 10 = .ok (.ifCond .ne 13, 3) := by decide +kernel
theorem dX10_carriedMessage_13 : decode cX10_carriedMessage 13 = .ok (.new 108, 3) := by decide +kernel
theorem dX10_carriedMessage_16 : decode cX10_carriedMessage 16 = .ok (.dup, 1) := by decide +kernel
theorem dX10_carriedMessage_17 : decode cX10_carriedMessage 17 = .ok (.ldc 167, 2) := by decide +kernel
theorem dX10_carriedMessage_19 : decode cX10_carriedMessage 19 = .ok (.invokespecial 112, 3) := by decide +kernel
theorem dX10_carriedMessage_22 : decode cX10_carriedMessage 22 = .ok (.athrow, 1) := by decide +kernel
theorem dX10_carriedMessage_23 : decode cX10_carriedMessage 23 = .ok (.aload_n 2, 1) := by decide +kernel
theorem dX10_carriedMessage_24 : decode cX10_carriedMessage 24 = .ok (.getfield 169, 3) := by decide +kernel
theorem dX10_carriedMessage_27 : decode cX10_carriedMessage 27 = .ok (.ireturn, 1) := by decide +kernel
theorem dX10_flightMinutes_0 : decode cX10_flightMinutes 0 = .ok (.aload_n 0, 1) := by decide +kernel
theorem dX10_flightMinutes_1 : decode cX10_flightMinutes 1 = .ok (.iload_n 1, 1) := by decide +kernel
theorem dX10_flightMinutes_2 : decode cX10_flightMinutes 2 = .ok (.invokevirtual 158, 3) := by decide +kernel
theorem dX10_flightMinutes_5 : decode cX10_flightMinutes 5 = .ok (.astore_n 2, 1) := by decide +kernel
theorem dX10_flightMinutes_6 : decode cX10_flightMinutes 6 = .ok (.aload_n 2, 1) := by decide +kernel
theorem dX10_flightMinutes_7 : decode cX10_flightMinutes 7 = .ok (.getfield 162, 3) := by decide +kernel
theorem dX10_flightMinutes_10 : decode cX10_flightMinutes 10 = .ok (.ifCond .eq 18, 3) := by decide +kernel
theorem dX10_flightMinutes_13 : decode cX10_flightMinutes 13 = .ok (.aload_n 2, 1) := by decide +kernel
theorem dX10_flightMinutes_14 : decode cX10_flightMinutes 14 = .ok (.getfield 172, 3) := by decide +kernel
theorem dX10_flightMinutes_17 : decode cX10_flightMinutes 17 = .ok (.aload_n 0, 1) := by decide +kernel
theorem dX10_flightMinutes_18 : decode cX10_flightMinutes 18 = .ok (.getfield 10, 3) := by decide +kernel
theorem dX10_flightMinutes_21 : decode cX10_flightMinutes 21 = .ok (.getfield 175, 3) := by decide +kernel
theorem dX10_flightMinutes_24 : decode cX10_flightMinutes 24 = .ok (.isub, 1) := by decide +kernel
theorem dX10_flightMinutes_25 : decode cX10_flightMinutes 25 = .ok (.goto 4, 3) := by decide +kernel
theorem dX10_flightMinutes_28 : decode cX10_flightMinutes 28 = .ok (.iconst 0, 1) := by decide +kernel
theorem dX10_flightMinutes_29 : decode cX10_flightMinutes 29 = .ok (.ireturn, 1) := by decide +kernel
theorem dX10_existingCrow_0 : decode cX10_existingCrow 0 = .ok (.aload_n 0, 1) := by decide +kernel
theorem dX10_existingCrow_1 : decode cX10_existingCrow 1 = .ok (.getfield 10, 3) := by decide +kernel
theorem dX10_existingCrow_4 : decode cX10_existingCrow 4 = .ok (.iload_n 1, 1) := by decide +kernel
theorem dX10_existingCrow_5 : decode cX10_existingCrow 5 = .ok (.invokevirtual 178, 3) := by decide +kernel
theorem dX10_existingCrow_8 : decode cX10_existingCrow 8 = .ok (.astore_n 2, 1) := by decide +kernel
theorem dX10_existingCrow_9 : decode cX10_existingCrow 9 = .ok (.aload_n 2, 1) := by decide +kernel
theorem dX10_existingCrow_10 : decode cX10_existingCrow 10 = .ok (.ifnonnull 13, 3) := by decide +kernel
theorem dX10_existingCrow_13 : decode cX10_existingCrow 13 = .ok (.new 103, 3) := by decide +kernel
theorem dX10_existingCrow_16 : decode cX10_existingCrow 16 = .ok (.dup, 1) := by decide +kernel
theorem dX10_existingCrow_17 : decode cX10_existingCrow 17 = .ok (.ldc 181, 2) := by decide +kernel
theorem dX10_existingCrow_19 : decode cX10_existingCrow 19 = .ok (.invokespecial 107, 3) := by decide +kernel
theorem dX10_existingCrow_22 : decode cX10_existingCrow 22 = .ok (.athrow, 1) := by decide +kernel
theorem dX10_existingCrow_23 : decode cX10_existingCrow 23 = .ok (.aload_n 2, 1) := by decide +kernel
theorem dX10_existingCrow_24 : decode cX10_existingCrow 24 = .ok (.areturn, 1) := by decide +kernel
theorem dX10_messageCount_0 : decode cX10_messageCount 0 = .ok (.aload_n 0, 1) := by decide +kernel
theorem dX10_messageCount_1 : decode cX10_messageCount 1 = .ok (.getfield 10, 3) := by decide +kernel
theorem dX10_messageCount_4 : decode cX10_messageCount 4 = .ok (.getfield 183, 3) := by decide +kernel
theorem dX10_messageCount_7 : decode cX10_messageCount 7 = .ok (.ireturn, 1) := by decide +kernel
theorem dX10_messageAt_0 : decode cX10_messageAt 0 = .ok (.iload_n 1, 1) := by decide +kernel
theorem dX10_messageAt_1 : decode cX10_messageAt 1 = .ok (.ifCond .lt 14, 3) := by decide +kernel
theorem dX10_messageAt_4 : decode cX10_messageAt 4 = .ok (.iload_n 1, 1) := by decide +kernel
theorem dX10_messageAt_5 : decode cX10_messageAt 5 = .ok (.aload_n 0, 1) := by decide +kernel
theorem dX10_messageAt_6 : decode cX10_messageAt 6 = .ok (.getfield 10, 3) := by decide +kernel
theorem dX10_messageAt_9 : decode cX10_messageAt 9 = .ok (.getfield 183, 3) := by decide +kernel
theorem dX10_messageAt_12 : decode cX10_messageAt 12 = .ok (.if_icmp .lt 13, 3) := by decide +kernel
theorem dX10_messageAt_15 : decode cX10_messageAt 15 = .ok (.new 108, 3) := by decide +kernel
theorem dX10_messageAt_18 : decode cX10_messageAt 18 = .ok (.dup, 1) := by decide +kernel
theorem dX10_messageAt_19 : decode cX10_messageAt 19 = .ok (.ldc 134, 2) := by decide +kernel
theorem dX10_messageAt_21 : decode cX10_messageAt 21 = .ok (.invokespecial 112, 3) := by decide +kernel
theorem dX10_messageAt_24 : decode cX10_messageAt 24 = .ok (.athrow, 1) := by decide +kernel
theorem dX10_messageAt_25 : decode cX10_messageAt 25 = .ok (.aload_n 0, 1) := by decide +kernel
theorem dX10_messageAt_26 : decode cX10_messageAt 26 = .ok (.getfield 10, 3) := by decide +kernel
theorem dX10_messageAt_29 : decode cX10_messageAt 29 = .ok (.getfield 186, 3) := by decide +kernel
theorem dX10_messageAt_32 : decode cX10_messageAt 32 = .ok (.iload_n 1, 1) := by decide +kernel
theorem dX10_messageAt_33 : decode cX10_messageAt 33 = .ok (.aaload, 1) := by decide +kernel
theorem dX10_messageAt_34 : decode cX10_messageAt 34 = .ok (.getfield 190, 3) := by decide +kernel
theorem dX10_messageAt_37 : decode cX10_messageAt 37 = .ok (.ireturn, 1) := by decide +kernel
theorem dX10_nestOf_0 : decode cX10_nestOf 0 = .ok (.aload_n 0, 1) := by decide +kernel
theorem dX10_nestOf_1 : decode cX10_nestOf 1 = .ok (.iload_n 1, 1) := by decide +kernel
theorem dX10_nestOf_2 : decode cX10_nestOf 2 = .ok (.invokevirtual 195, 3) := by decide +kernel
theorem dX10_nestOf_5 : decode cX10_nestOf 5 = .ok (.getfield 199, 3) := by decide +kernel
theorem dX10_nestOf_8 : decode cX10_nestOf 8 = .ok (.ireturn, 1) := by decide +kernel
theorem dX10_keyOf_0 : decode cX10_keyOf 0 = .ok (.aload_n 0, 1) := by decide +kernel
theorem dX10_keyOf_1 : decode cX10_keyOf 1 = .ok (.iload_n 1, 1) := by decide +kernel
theorem dX10_keyOf_2 : decode cX10_keyOf 2 = .ok (.invokevirtual 195, 3) := by decide +kernel
theorem dX10_keyOf_5 : decode cX10_keyOf 5 = .ok (.getfield 202, 3) := by decide +kernel
theorem dX10_keyOf_8 : decode cX10_keyOf 8 = .ok (.ireturn, 1) := by decide +kernel
theorem dX10_attempts_0 : decode cX10_attempts 0 = .ok (.aload_n 0, 1) := by decide +kernel
theorem dX10_attempts_1 : decode cX10_attempts 1 = .ok (.iload_n 1, 1) := by decide +kernel
theorem dX10_attempts_2 : decode cX10_attempts 2 = .ok (.invokevirtual 195, 3) := by decide +kernel
theorem dX10_attempts_5 : decode cX10_attempts 5 = .ok (.getfield 205, 3) := by decide +kernel
theorem dX10_attempts_8 : decode cX10_attempts 8 = .ok (.ireturn, 1) := by decide +kernel
theorem dX10_status_0 : decode cX10_status 0 = .ok (.aload_n 0, 1) := by decide +kernel
theorem dX10_status_1 : decode cX10_status 1 = .ok (.iload_n 1, 1) := by decide +kernel
theorem dX10_status_2 : decode cX10_status 2 = .ok (.invokevirtual 195, 3) := by decide +kernel
theorem dX10_status_5 : decode cX10_status 5 = .ok (.getfield 208, 3) := by decide +kernel
theorem dX10_status_8 : decode cX10_status 8 = .ok (.ireturn, 1) := by decide +kernel
theorem dX10_napMinutes_0 : decode cX10_napMinutes 0 = .ok (.aload_n 0, 1) := by decide +kernel
theorem dX10_napMinutes_1 : decode cX10_napMinutes 1 = .ok (.iload_n 1, 1) := by decide +kernel
theorem dX10_napMinutes_2 : decode cX10_napMinutes 2 = .ok (.invokevirtual 195, 3) := by decide +kernel
theorem dX10_napMinutes_5 : decode cX10_napMinutes 5 = .ok (.astore_n 2, 1) := by decide +kernel
theorem dX10_napMinutes_6 : decode cX10_napMinutes 6 = .ok (.aload_n 2, 1) := by decide +kernel
