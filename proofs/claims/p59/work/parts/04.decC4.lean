theorem dX10_napMinutes_7 : decode cX10_napMinutes 7 = .ok (.getfield 208, 3) := by decide +kernel
theorem dX10_napMinutes_10 : decode cX10_napMinutes 10 = .ok (.bipush 110, 2) := by decide +kernel
theorem dX10_napMinutes_12 : decode cX10_napMinutes 12 = .ok (.if_icmp .eq 13, 3) := by decide +kernel
theorem dX10_napMinutes_15 : decode cX10_napMinutes 15 = .ok (.new 98, 3) := by decide +kernel
theorem dX10_napMinutes_18 : decode cX10_napMinutes 18 = .ok (.dup, 1) := by decide +kernel
theorem dX10_napMinutes_19 : decode cX10_napMinutes 19 = .ok (.ldc 212, 2) := by decide +kernel
theorem dX10_napMinutes_21 : decode cX10_napMinutes 21 = .ok (.invokespecial 102, 3) := by decide +kernel
theorem dX10_napMinutes_24 : decode cX10_napMinutes 24 = .ok (.athrow, 1) := by decide +kernel
theorem dX10_napMinutes_25 : decode cX10_napMinutes 25 = .ok (.aload_n 2, 1) := by decide +kernel
theorem dX10_napMinutes_26 : decode cX10_napMinutes 26 = .ok (.getfield 214, 3) := by decide +kernel
theorem dX10_napMinutes_29 : decode cX10_napMinutes 29 = .ok (.aload_n 0, 1) := by decide +kernel
theorem dX10_napMinutes_30 : decode cX10_napMinutes 30 = .ok (.getfield 10, 3) := by decide +kernel
theorem dX10_napMinutes_33 : decode cX10_napMinutes 33 = .ok (.getfield 175, 3) := by decide +kernel
theorem dX10_napMinutes_36 : decode cX10_napMinutes 36 = .ok (.isub, 1) := by decide +kernel
theorem dX10_napMinutes_37 : decode cX10_napMinutes 37 = .ok (.ireturn, 1) := by decide +kernel
theorem dX10_waitingMessage_0 : decode cX10_waitingMessage 0 = .ok (.aload_n 0, 1) := by decide +kernel
theorem dX10_waitingMessage_1 : decode cX10_waitingMessage 1 = .ok (.getfield 10, 3) := by decide +kernel
theorem dX10_waitingMessage_4 : decode cX10_waitingMessage 4 = .ok (.iload_n 1, 1) := by decide +kernel
theorem dX10_waitingMessage_5 : decode cX10_waitingMessage 5 = .ok (.invokevirtual 217, 3) := by decide +kernel
theorem dX10_waitingMessage_8 : decode cX10_waitingMessage 8 = .ok (.astore_n 2, 1) := by decide +kernel
theorem dX10_waitingMessage_9 : decode cX10_waitingMessage 9 = .ok (.aload_n 2, 1) := by decide +kernel
theorem dX10_waitingMessage_10 : decode cX10_waitingMessage 10 = .ok (.ifnonnull 13, 3) := by decide +kernel
theorem dX10_waitingMessage_13 : decode cX10_waitingMessage 13 = .ok (.new 108, 3) := by decide +kernel
theorem dX10_waitingMessage_16 : decode cX10_waitingMessage 16 = .ok (.dup, 1) := by decide +kernel
theorem dX10_waitingMessage_17 : decode cX10_waitingMessage 17 = .ok (.ldc 150, 2) := by decide +kernel
theorem dX10_waitingMessage_19 : decode cX10_waitingMessage 19 = .ok (.invokespecial 112, 3) := by decide +kernel
theorem dX10_waitingMessage_22 : decode cX10_waitingMessage 22 = .ok (.athrow, 1) := by decide +kernel
theorem dX10_waitingMessage_23 : decode cX10_waitingMessage 23 = .ok (.aload_n 2, 1) := by decide +kernel
theorem dX10_waitingMessage_24 : decode cX10_waitingMessage 24 = .ok (.getfield 190, 3) := by decide +kernel
theorem dX10_waitingMessage_27 : decode cX10_waitingMessage 27 = .ok (.ireturn, 1) := by decide +kernel
theorem dX10_wouldBeLost_0 : decode cX10_wouldBeLost 0 = .ok (.aload_n 0, 1) := by decide +kernel
theorem dX10_wouldBeLost_1 : decode cX10_wouldBeLost 1 = .ok (.iload_n 1, 1) := by decide +kernel
theorem dX10_wouldBeLost_2 : decode cX10_wouldBeLost 2 = .ok (.invokevirtual 195, 3) := by decide +kernel
theorem dX10_wouldBeLost_5 : decode cX10_wouldBeLost 5 = .ok (.astore_n 2, 1) := by decide +kernel
theorem dX10_wouldBeLost_6 : decode cX10_wouldBeLost 6 = .ok (.aload_n 2, 1) := by decide +kernel
theorem dX10_wouldBeLost_7 : decode cX10_wouldBeLost 7 = .ok (.getfield 208, 3) := by decide +kernel
theorem dX10_wouldBeLost_10 : decode cX10_wouldBeLost 10 = .ok (.bipush 100, 2) := by decide +kernel
theorem dX10_wouldBeLost_12 : decode cX10_wouldBeLost 12 = .ok (.if_icmp .ne 13, 3) := by decide +kernel
theorem dX10_wouldBeLost_15 : decode cX10_wouldBeLost 15 = .ok (.new 98, 3) := by decide +kernel
theorem dX10_wouldBeLost_18 : decode cX10_wouldBeLost 18 = .ok (.dup, 1) := by decide +kernel
theorem dX10_wouldBeLost_19 : decode cX10_wouldBeLost 19 = .ok (.ldc 220, 2) := by decide +kernel
theorem dX10_wouldBeLost_21 : decode cX10_wouldBeLost 21 = .ok (.invokespecial 102, 3) := by decide +kernel
theorem dX10_wouldBeLost_24 : decode cX10_wouldBeLost 24 = .ok (.athrow, 1) := by decide +kernel
theorem dX10_wouldBeLost_25 : decode cX10_wouldBeLost 25 = .ok (.aload_n 0, 1) := by decide +kernel
theorem dX10_wouldBeLost_26 : decode cX10_wouldBeLost 26 = .ok (.getfield 10, 3) := by decide +kernel
theorem dX10_wouldBeLost_29 : decode cX10_wouldBeLost 29 = .ok (.aload_n 2, 1) := by decide +kernel
theorem dX10_wouldBeLost_30 : decode cX10_wouldBeLost 30 = .ok (.aload_n 2, 1) := by decide +kernel
theorem dX10_wouldBeLost_31 : decode cX10_wouldBeLost 31 = .ok (.getfield 205, 3) := by decide +kernel
theorem dX10_wouldBeLost_34 : decode cX10_wouldBeLost 34 = .ok (.iconst 1, 1) := by decide +kernel
theorem dX10_wouldBeLost_35 : decode cX10_wouldBeLost 35 = .ok (.iadd, 1) := by decide +kernel
theorem dX10_wouldBeLost_36 : decode cX10_wouldBeLost 36 = .ok (.invokevirtual 222, 3) := by decide +kernel
theorem dX10_wouldBeLost_39 : decode cX10_wouldBeLost 39 = .ok (.ireturn, 1) := by decide +kernel
theorem dX10_napLength_0 : decode cX10_napLength 0 = .ok (.iload_n 1, 1) := by decide +kernel
theorem dX10_napLength_1 : decode cX10_napLength 1 = .ok (.ifCond .lt 9, 3) := by decide +kernel
theorem dX10_napLength_4 : decode cX10_napLength 4 = .ok (.iload_n 1, 1) := by decide +kernel
theorem dX10_napLength_5 : decode cX10_napLength 5 = .ok (.bipush 40, 2) := by decide +kernel
theorem dX10_napLength_7 : decode cX10_napLength 7 = .ok (.if_icmp .le 13, 3) := by decide +kernel
theorem dX10_napLength_10 : decode cX10_napLength 10 = .ok (.new 91, 3) := by decide +kernel
theorem dX10_napLength_13 : decode cX10_napLength 13 = .ok (.dup, 1) := by decide +kernel
theorem dX10_napLength_14 : decode cX10_napLength 14 = .ok (.ldc 226, 2) := by decide +kernel
theorem dX10_napLength_16 : decode cX10_napLength 16 = .ok (.invokespecial 95, 3) := by decide +kernel
theorem dX10_napLength_19 : decode cX10_napLength 19 = .ok (.athrow, 1) := by decide +kernel
theorem dX10_napLength_20 : decode cX10_napLength 20 = .ok (.iload_n 1, 1) := by decide +kernel
theorem dX10_napLength_21 : decode cX10_napLength 21 = .ok (.invokestatic 228, 3) := by decide +kernel
theorem dX10_napLength_24 : decode cX10_napLength 24 = .ok (.lreturn, 1) := by decide +kernel
theorem dX10_napLengthByDoubling_0 : decode cX10_napLengthByDoubling 0 = .ok (.iload_n 1, 1) := by decide +kernel
theorem dX10_napLengthByDoubling_1 : decode cX10_napLengthByDoubling 1 = .ok (.ifCond .lt 9, 3) := by decide +kernel
theorem dX10_napLengthByDoubling_4 : decode cX10_napLengthByDoubling 4 = .ok (.iload_n 1, 1) := by decide +kernel
theorem dX10_napLengthByDoubling_5 : decode cX10_napLengthByDoubling 5 = .ok (.bipush 40, 2) := by decide +kernel
theorem dX10_napLengthByDoubling_7 : decode cX10_napLengthByDoubling 7 = .ok (.if_icmp .le 13, 3) := by decide +kernel
theorem dX10_napLengthByDoubling_10 : decode cX10_napLengthByDoubling 10 = .ok (.new 91, 3) := by decide +kernel
theorem dX10_napLengthByDoubling_13 : decode cX10_napLengthByDoubling 13 = .ok (.dup, 1) := by decide +kernel
theorem dX10_napLengthByDoubling_14 : decode cX10_napLengthByDoubling 14 = .ok (.ldc 226, 2) := by decide +kernel
theorem dX10_napLengthByDoubling_16 : decode cX10_napLengthByDoubling 16 = .ok (.invokespecial 95, 3) := by decide +kernel
theorem dX10_napLengthByDoubling_19 : decode cX10_napLengthByDoubling 19 = .ok (.athrow, 1) := by decide +kernel
theorem dX10_napLengthByDoubling_20 : decode cX10_napLengthByDoubling 20 = .ok (.iload_n 1, 1) := by decide +kernel
theorem dX10_napLengthByDoubling_21 : decode cX10_napLengthByDoubling 21 = .ok (.invokestatic 232, 3) := by decide +kernel
theorem dX10_napLengthByDoubling_24 : decode cX10_napLengthByDoubling 24 = .ok (.lreturn, 1) := by decide +kernel
theorem dX10_minutesUntilDelivered_0 : decode cX10_minutesUntilDelivered 0 = .ok (.aload_n 0, 1) := by decide +kernel
theorem dX10_minutesUntilDelivered_1 : decode cX10_minutesUntilDelivered 1 = .ok (.iload_n 1, 1) := by decide +kernel
theorem dX10_minutesUntilDelivered_2 : decode cX10_minutesUntilDelivered 2 = .ok (.invokevirtual 195, 3) := by decide +kernel
theorem dX10_minutesUntilDelivered_5 : decode cX10_minutesUntilDelivered 5 = .ok (.getfield 208, 3) := by decide +kernel
theorem dX10_minutesUntilDelivered_8 : decode cX10_minutesUntilDelivered 8 = .ok (.bipush 100, 2) := by decide +kernel
theorem dX10_minutesUntilDelivered_10 : decode cX10_minutesUntilDelivered 10 = .ok (.if_icmp .ne 13, 3) := by decide +kernel
theorem dX10_minutesUntilDelivered_13 : decode cX10_minutesUntilDelivered 13 = .ok (.new 98, 3) := by decide +kernel
theorem dX10_minutesUntilDelivered_16 : decode cX10_minutesUntilDelivered 16 = .ok (.dup, 1) := by decide +kernel
theorem dX10_minutesUntilDelivered_17 : decode cX10_minutesUntilDelivered 17 = .ok (.ldc 235, 2) := by decide +kernel
theorem dX10_minutesUntilDelivered_19 : decode cX10_minutesUntilDelivered 19 = .ok (.invokespecial 102, 3) := by decide +kernel
theorem dX10_minutesUntilDelivered_22 : decode cX10_minutesUntilDelivered 22 = .ok (.athrow, 1) := by decide +kernel
theorem dX10_minutesUntilDelivered_23 : decode cX10_minutesUntilDelivered 23 = .ok (.aload_n 0, 1) := by decide +kernel
theorem dX10_minutesUntilDelivered_24 : decode cX10_minutesUntilDelivered 24 = .ok (.iload_n 1, 1) := by decide +kernel
theorem dX10_minutesUntilDelivered_25 : decode cX10_minutesUntilDelivered 25 = .ok (.invokevirtual 237, 3) := by decide +kernel
theorem dX10_minutesUntilDelivered_28 : decode cX10_minutesUntilDelivered 28 = .ok (.istore_n 2, 1) := by decide +kernel
theorem dX10_minutesUntilDelivered_29 : decode cX10_minutesUntilDelivered 29 = .ok (.iload_n 2, 1) := by decide +kernel
theorem dX10_minutesUntilDelivered_30 : decode cX10_minutesUntilDelivered 30 = .ok (.iconst (-1), 1) := by decide +kernel
theorem dX10_minutesUntilDelivered_31 : decode cX10_minutesUntilDelivered 31 = .ok (.if_icmp .ne 13, 3) := by decide +kernel
theorem dX10_minutesUntilDelivered_34 : decode cX10_minutesUntilDelivered 34 = .ok (.new 98, 3) := by decide +kernel
theorem dX10_minutesUntilDelivered_37 : decode cX10_minutesUntilDelivered 37 = .ok (.dup, 1) := by decide +kernel
theorem dX10_minutesUntilDelivered_38 : decode cX10_minutesUntilDelivered 38 = .ok (.ldc 240, 2) := by decide +kernel
theorem dX10_minutesUntilDelivered_40 : decode cX10_minutesUntilDelivered 40 = .ok (.invokespecial 102, 3) := by decide +kernel
theorem dX10_minutesUntilDelivered_43 : decode cX10_minutesUntilDelivered 43 = .ok (.athrow, 1) := by decide +kernel
theorem dX10_minutesUntilDelivered_44 : decode cX10_minutesUntilDelivered 44 = .ok (.iload_n 2, 1) := by decide +kernel
theorem dX10_minutesUntilDelivered_45 : decode cX10_minutesUntilDelivered 45 = .ok (.ireturn, 1) := by decide +kernel
theorem dX10_existingMessage_0 : decode cX10_existingMessage 0 = .ok (.aload_n 0, 1) := by decide +kernel
theorem dX10_existingMessage_1 : decode cX10_existingMessage 1 = .ok (.getfield 10, 3) := by decide +kernel
theorem dX10_existingMessage_4 : decode cX10_existingMessage 4 = .ok (.iload_n 1, 1) := by decide +kernel
theorem dX10_existingMessage_5 : decode cX10_existingMessage 5 = .ok (.invokevirtual 242, 3) := by decide +kernel
theorem dX10_existingMessage_8 : decode cX10_existingMessage 8 = .ok (.astore_n 2, 1) := by decide +kernel
theorem dX10_existingMessage_9 : decode cX10_existingMessage 9 = .ok (.aload_n 2, 1) := by decide +kernel
theorem dX10_existingMessage_10 : decode cX10_existingMessage 10 = .ok (.ifnonnull 13, 3) := by decide +kernel
theorem dX10_existingMessage_13 : decode cX10_existingMessage 13 = .ok (.new 108, 3) := by decide +kernel
theorem dX10_existingMessage_16 : decode cX10_existingMessage 16 = .ok (.dup, 1) := by decide +kernel
theorem dX10_existingMessage_17 : decode cX10_existingMessage 17 = .ok (.ldc 110, 2) := by decide +kernel
theorem dX10_existingMessage_19 : decode cX10_existingMessage 19 = .ok (.invokespecial 112, 3) := by decide +kernel
theorem dX10_existingMessage_22 : decode cX10_existingMessage 22 = .ok (.athrow, 1) := by decide +kernel
theorem dX10_existingMessage_23 : decode cX10_existingMessage 23 = .ok (.aload_n 2, 1) := by decide +kernel
theorem dX10_existingMessage_24 : decode cX10_existingMessage 24 = .ok (.areturn, 1) := by decide +kernel
theorem dX10_foreseenMinutes_0 : decode cX10_foreseenMinutes 0 = .ok (.aload_n 0, 1) := by decide +kernel
theorem dX10_foreseenMinutes_1 : decode cX10_foreseenMinutes 1 = .ok (.getfield 19, 3) := by decide +kernel
theorem dX10_foreseenMinutes_4 : decode cX10_foreseenMinutes 4 = .ok (.aload_n 0, 1) := by decide +kernel
theorem dX10_foreseenMinutes_5 : decode cX10_foreseenMinutes 5 = .ok (.getfield 10, 3) := by decide +kernel
theorem dX10_foreseenMinutes_8 : decode cX10_foreseenMinutes 8 = .ok (.invokevirtual 57, 3) := by decide +kernel
theorem dX10_foreseenMinutes_11 : decode cX10_foreseenMinutes 11 = .ok (.iconst 1, 1) := by decide +kernel
theorem dX10_foreseenMinutes_12 : decode cX10_foreseenMinutes 12 = .ok (.istore_n 2, 1) := by decide +kernel
theorem dX10_foreseenMinutes_13 : decode cX10_foreseenMinutes 13 = .ok (.iload_n 2, 1) := by decide +kernel
theorem dX10_foreseenMinutes_14 : decode cX10_foreseenMinutes 14 = .ok (.bipush 100, 2) := by decide +kernel
theorem dX10_foreseenMinutes_16 : decode cX10_foreseenMinutes 16 = .ok (.if_icmp .gt 44, 3) := by decide +kernel
theorem dX10_foreseenMinutes_19 : decode cX10_foreseenMinutes 19 = .ok (.aload_n 0, 1) := by decide +kernel
theorem dX10_foreseenMinutes_20 : decode cX10_foreseenMinutes 20 = .ok (.getfield 19, 3) := by decide +kernel
theorem dX10_foreseenMinutes_23 : decode cX10_foreseenMinutes 23 = .ok (.iconst 1, 1) := by decide +kernel
theorem dX10_foreseenMinutes_24 : decode cX10_foreseenMinutes 24 = .ok (.invokevirtual 88, 3) := by decide +kernel
theorem dX10_foreseenMinutes_27 : decode cX10_foreseenMinutes 27 = .ok (.pop, 1) := by decide +kernel
theorem dX10_foreseenMinutes_28 : decode cX10_foreseenMinutes 28 = .ok (.aload_n 0, 1) := by decide +kernel
theorem dX10_foreseenMinutes_29 : decode cX10_foreseenMinutes 29 = .ok (.getfield 19, 3) := by decide +kernel
theorem dX10_foreseenMinutes_32 : decode cX10_foreseenMinutes 32 = .ok (.iload_n 1, 1) := by decide +kernel
theorem dX10_foreseenMinutes_33 : decode cX10_foreseenMinutes 33 = .ok (.invokevirtual 242, 3) := by decide +kernel
theorem dX10_foreseenMinutes_36 : decode cX10_foreseenMinutes 36 = .ok (.astore_n 3, 1) := by decide +kernel
theorem dX10_foreseenMinutes_37 : decode cX10_foreseenMinutes 37 = .ok (.aload_n 3, 1) := by decide +kernel
theorem dX10_foreseenMinutes_38 : decode cX10_foreseenMinutes 38 = .ok (.ifnonnull 5, 3) := by decide +kernel
theorem dX10_foreseenMinutes_41 : decode cX10_foreseenMinutes 41 = .ok (.iconst (-1), 1) := by decide +kernel
theorem dX10_foreseenMinutes_42 : decode cX10_foreseenMinutes 42 = .ok (.ireturn, 1) := by decide +kernel
theorem dX10_foreseenMinutes_43 : decode cX10_foreseenMinutes 43 = .ok (.aload_n 3, 1) := by decide +kernel
theorem dX10_foreseenMinutes_44 : decode cX10_foreseenMinutes 44 = .ok (.getfield 208, 3) := by decide +kernel
theorem dX10_foreseenMinutes_47 : decode cX10_foreseenMinutes 47 = .ok (.bipush 100, 2) := by decide +kernel
theorem dX10_foreseenMinutes_49 : decode cX10_foreseenMinutes 49 = .ok (.if_icmp .ne 5, 3) := by decide +kernel
theorem dX10_foreseenMinutes_52 : decode cX10_foreseenMinutes 52 = .ok (.iload_n 2, 1) := by decide +kernel
theorem dX10_foreseenMinutes_53 : decode cX10_foreseenMinutes 53 = .ok (.ireturn, 1) := by decide +kernel
theorem dX10_foreseenMinutes_54 : decode cX10_foreseenMinutes 54 = .ok (.iinc 2 1, 3) := by decide +kernel
theorem dX10_foreseenMinutes_57 : decode cX10_foreseenMinutes 57 = .ok (.goto (-44), 3) := by decide +kernel
theorem dX10_foreseenMinutes_60 : decode cX10_foreseenMinutes 60 = .ok (.iconst (-1), 1) := by decide +kernel
theorem dX10_foreseenMinutes_61 : decode cX10_foreseenMinutes 61 = .ok (.ireturn, 1) := by decide +kernel
theorem dX10_shiftedNap_0 : decode cX10_shiftedNap 0 = .ok (.lconst 1, 1) := by decide +kernel
theorem dX10_shiftedNap_1 : decode cX10_shiftedNap 1 = .ok (.iload_n 0, 1) := by decide +kernel
theorem dX10_shiftedNap_2 : decode cX10_shiftedNap 2 = .ok (.lshl, 1) := by decide +kernel
theorem dX10_shiftedNap_3 : decode cX10_shiftedNap 3 = .ok (.lreturn, 1) := by decide +kernel
theorem dX10_doubledNap_0 : decode cX10_doubledNap 0 = .ok (.lconst 1, 1) := by decide +kernel
theorem dX10_doubledNap_1 : decode cX10_doubledNap 1 = .ok (.lstore_n 1, 1) := by decide +kernel
theorem dX10_doubledNap_2 : decode cX10_doubledNap 2 = .ok (.iconst 0, 1) := by decide +kernel
theorem dX10_doubledNap_3 : decode cX10_doubledNap 3 = .ok (.istore_n 3, 1) := by decide +kernel
theorem dX10_doubledNap_4 : decode cX10_doubledNap 4 = .ok (.iload_n 3, 1) := by decide +kernel
theorem dX10_doubledNap_5 : decode cX10_doubledNap 5 = .ok (.iload_n 0, 1) := by decide +kernel
theorem dX10_doubledNap_6 : decode cX10_doubledNap 6 = .ok (.if_icmp .ge 13, 3) := by decide +kernel
theorem dX10_doubledNap_9 : decode cX10_doubledNap 9 = .ok (.lload_n 1, 1) := by decide +kernel
theorem dX10_doubledNap_10 : decode cX10_doubledNap 10 = .ok (.lload_n 1, 1) := by decide +kernel
theorem dX10_doubledNap_11 : decode cX10_doubledNap 11 = .ok (.ladd, 1) := by decide +kernel
theorem dX10_doubledNap_12 : decode cX10_doubledNap 12 = .ok (.lstore_n 1, 1) := by decide +kernel
theorem dX10_doubledNap_13 : decode cX10_doubledNap 13 = .ok (.iinc 3 1, 3) := by decide +kernel
theorem dX10_doubledNap_16 : decode cX10_doubledNap 16 = .ok (.goto (-12), 3) := by decide +kernel
theorem dX10_doubledNap_19 : decode cX10_doubledNap 19 = .ok (.lload_n 1, 1) := by decide +kernel
theorem dX10_doubledNap_20 : decode cX10_doubledNap 20 = .ok (.lreturn, 1) := by decide +kernel
theorem dX10_time_0 : decode cX10_time 0 = .ok (.aload_n 0, 1) := by decide +kernel
theorem dX10_time_1 : decode cX10_time 1 = .ok (.getfield 10, 3) := by decide +kernel
theorem dX10_time_4 : decode cX10_time 4 = .ok (.getfield 175, 3) := by decide +kernel
theorem dX10_time_7 : decode cX10_time 7 = .ok (.ireturn, 1) := by decide +kernel
theorem dX10_wind_0 : decode cX10_wind 0 = .ok (.aload_n 0, 1) := by decide +kernel
theorem dX10_wind_1 : decode cX10_wind 1 = .ok (.getfield 10, 3) := by decide +kernel
theorem dX10_wind_4 : decode cX10_wind 4 = .ok (.getfield 245, 3) := by decide +kernel
theorem dX10_wind_7 : decode cX10_wind 7 = .ok (.ireturn, 1) := by decide +kernel
theorem dX10_publishedTotal_0 : decode cX10_publishedTotal 0 = .ok (.aload_n 0, 1) := by decide +kernel
theorem dX10_publishedTotal_1 : decode cX10_publishedTotal 1 = .ok (.getfield 10, 3) := by decide +kernel
theorem dX10_publishedTotal_4 : decode cX10_publishedTotal 4 = .ok (.getfield 248, 3) := by decide +kernel
theorem dX10_publishedTotal_7 : decode cX10_publishedTotal 7 = .ok (.getfield 252, 3) := by decide +kernel
theorem dX10_publishedTotal_10 : decode cX10_publishedTotal 10 = .ok (.ireturn, 1) := by decide +kernel
theorem dX10_deliveredTotal_0 : decode cX10_deliveredTotal 0 = .ok (.aload_n 0, 1) := by decide +kernel
theorem dX10_deliveredTotal_1 : decode cX10_deliveredTotal 1 = .ok (.getfield 10, 3) := by decide +kernel
theorem dX10_deliveredTotal_4 : decode cX10_deliveredTotal 4 = .ok (.getfield 248, 3) := by decide +kernel
theorem dX10_deliveredTotal_7 : decode cX10_deliveredTotal 7 = .ok (.getfield 257, 3) := by decide +kernel
theorem dX10_deliveredTotal_10 : decode cX10_deliveredTotal 10 = .ok (.ireturn, 1) := by decide +kernel
theorem dX10_readTotal_0 : decode cX10_readTotal 0 = .ok (.aload_n 0, 1) := by decide +kernel
theorem dX10_readTotal_1 : decode cX10_readTotal 1 = .ok (.getfield 10, 3) := by decide +kernel
theorem dX10_readTotal_4 : decode cX10_readTotal 4 = .ok (.getfield 248, 3) := by decide +kernel
theorem dX10_readTotal_7 : decode cX10_readTotal 7 = .ok (.getfield 260, 3) := by decide +kernel
theorem dX10_readTotal_10 : decode cX10_readTotal 10 = .ok (.ireturn, 1) := by decide +kernel
theorem dX10_duplicateTotal_0 : decode cX10_duplicateTotal 0 = .ok (.aload_n 0, 1) := by decide +kernel
theorem dX10_duplicateTotal_1 : decode cX10_duplicateTotal 1 = .ok (.getfield 10, 3) := by decide +kernel
theorem dX10_duplicateTotal_4 : decode cX10_duplicateTotal 4 = .ok (.getfield 248, 3) := by decide +kernel
theorem dX10_duplicateTotal_7 : decode cX10_duplicateTotal 7 = .ok (.getfield 263, 3) := by decide +kernel
theorem dX10_duplicateTotal_10 : decode cX10_duplicateTotal 10 = .ok (.ireturn, 1) := by decide +kernel
theorem dX10_failedTotal_0 : decode cX10_failedTotal 0 = .ok (.aload_n 0, 1) := by decide +kernel
theorem dX10_failedTotal_1 : decode cX10_failedTotal 1 = .ok (.getfield 10, 3) := by decide +kernel
theorem dX10_failedTotal_4 : decode cX10_failedTotal 4 = .ok (.getfield 248, 3) := by decide +kernel
theorem dX10_failedTotal_7 : decode cX10_failedTotal 7 = .ok (.getfield 266, 3) := by decide +kernel
theorem dX10_failedTotal_10 : decode cX10_failedTotal 10 = .ok (.ireturn, 1) := by decide +kernel
theorem dX10_arrivalTotal_0 : decode cX10_arrivalTotal 0 = .ok (.aload_n 0, 1) := by decide +kernel
theorem dX10_arrivalTotal_1 : decode cX10_arrivalTotal 1 = .ok (.getfield 10, 3) := by decide +kernel
theorem dX10_arrivalTotal_4 : decode cX10_arrivalTotal 4 = .ok (.getfield 248, 3) := by decide +kernel
theorem dX10_arrivalTotal_7 : decode cX10_arrivalTotal 7 = .ok (.getfield 269, 3) := by decide +kernel
theorem dX10_arrivalTotal_10 : decode cX10_arrivalTotal 10 = .ok (.ireturn, 1) := by decide +kernel
theorem dX10_messageCountByTotals_0 : decode cX10_messageCountByTotals 0 = .ok (.aload_n 0, 1) := by decide +kernel
theorem dX10_messageCountByTotals_1 : decode cX10_messageCountByTotals 1 = .ok (.getfield 10, 3) := by decide +kernel
theorem dX10_messageCountByTotals_4 : decode cX10_messageCountByTotals 4 = .ok (.getfield 248, 3) := by decide +kernel
theorem dX10_messageCountByTotals_7 : decode cX10_messageCountByTotals 7 = .ok (.invokevirtual 272, 3) := by decide +kernel
theorem dX10_messageCountByTotals_10 : decode cX10_messageCountByTotals 10 = .ok (.ireturn, 1) := by decide +kernel
theorem dX10_meanAttempts_0 : decode cX10_meanAttempts 0 = .ok (.aload_n 0, 1) := by decide +kernel
theorem dX10_meanAttempts_1 : decode cX10_meanAttempts 1 = .ok (.getfield 10, 3) := by decide +kernel
theorem dX10_meanAttempts_4 : decode cX10_meanAttempts 4 = .ok (.getfield 183, 3) := by decide +kernel
theorem dX10_meanAttempts_7 : decode cX10_meanAttempts 7 = .ok (.ifCond .ne 14, 3) := by decide +kernel
theorem dX10_meanAttempts_10 : decode cX10_meanAttempts 10 = .ok (.new 275, 3) := by decide +kernel
theorem dX10_meanAttempts_13 : decode cX10_meanAttempts 13 = .ok (.dup, 1) := by decide +kernel
theorem dX10_meanAttempts_14 : decode cX10_meanAttempts 14 = .ok (.ldc_w 277, 3) := by decide +kernel
theorem dX10_meanAttempts_17 : decode cX10_meanAttempts 17 = .ok (.invokespecial 279, 3) := by decide +kernel
theorem dX10_meanAttempts_20 : decode cX10_meanAttempts 20 = .ok (.athrow, 1) := by decide +kernel
theorem dX10_meanAttempts_21 : decode cX10_meanAttempts 21 = .ok (.aload_n 0, 1) := by decide +kernel
theorem dX10_meanAttempts_22 : decode cX10_meanAttempts 22 = .ok (.invokevirtual 280, 3) := by decide +kernel
theorem dX10_meanAttempts_25 : decode cX10_meanAttempts 25 = .ok (.dreturn, 1) := by decide +kernel
theorem dX10_meanAttemptsBits_0 : decode cX10_meanAttemptsBits 0 = .ok (.aload_n 0, 1) := by decide +kernel
theorem dX10_meanAttemptsBits_1 : decode cX10_meanAttemptsBits 1 = .ok (.getfield 10, 3) := by decide +kernel
theorem dX10_meanAttemptsBits_4 : decode cX10_meanAttemptsBits 4 = .ok (.getfield 183, 3) := by decide +kernel
theorem dX10_meanAttemptsBits_7 : decode cX10_meanAttemptsBits 7 = .ok (.ifCond .ne 14, 3) := by decide +kernel
theorem dX10_meanAttemptsBits_10 : decode cX10_meanAttemptsBits 10 = .ok (.new 275, 3) := by decide +kernel
theorem dX10_meanAttemptsBits_13 : decode cX10_meanAttemptsBits 13 = .ok (.dup, 1) := by decide +kernel
theorem dX10_meanAttemptsBits_14 : decode cX10_meanAttemptsBits 14 = .ok (.ldc_w 277, 3) := by decide +kernel
theorem dX10_meanAttemptsBits_17 : decode cX10_meanAttemptsBits 17 = .ok (.invokespecial 279, 3) := by decide +kernel
theorem dX10_meanAttemptsBits_20 : decode cX10_meanAttemptsBits 20 = .ok (.athrow, 1) := by decide +kernel
theorem dX10_meanAttemptsBits_21 : decode cX10_meanAttemptsBits 21 = .ok (.aload_n 0, 1) := by decide +kernel
theorem dX10_meanAttemptsBits_22 : decode cX10_meanAttemptsBits 22 = .ok (.invokevirtual 280, 3) := by decide +kernel
theorem dX10_meanAttemptsBits_25 : decode cX10_meanAttemptsBits 25 = .ok (.bipush 52, 2) := by decide +kernel
theorem dX10_meanAttemptsBits_27 : decode cX10_meanAttemptsBits 27 = .ok (.sipush 1023, 3) := by decide +kernel
theorem dX10_meanAttemptsBits_30 : decode cX10_meanAttemptsBits 30 = .ok (.invokestatic 284, 3) := by decide +kernel
theorem dX10_meanAttemptsBits_33 : decode cX10_meanAttemptsBits 33 = .ok (.lreturn, 1) := by decide +kernel
theorem dX10_deliveryRate_0 : decode cX10_deliveryRate 0 = .ok (.aload_n 0, 1) := by decide +kernel
theorem dX10_deliveryRate_1 : decode cX10_deliveryRate 1 = .ok (.getfield 10, 3) := by decide +kernel
theorem dX10_deliveryRate_4 : decode cX10_deliveryRate 4 = .ok (.getfield 248, 3) := by decide +kernel
theorem dX10_deliveryRate_7 : decode cX10_deliveryRate 7 = .ok (.getfield 269, 3) := by decide +kernel
theorem dX10_deliveryRate_10 : decode cX10_deliveryRate 10 = .ok (.ifCond .ne 14, 3) := by decide +kernel
theorem dX10_deliveryRate_13 : decode cX10_deliveryRate 13 = .ok (.new 275, 3) := by decide +kernel
theorem dX10_deliveryRate_16 : decode cX10_deliveryRate 16 = .ok (.dup, 1) := by decide +kernel
theorem dX10_deliveryRate_17 : decode cX10_deliveryRate 17 = .ok (.ldc_w 288, 3) := by decide +kernel
theorem dX10_deliveryRate_20 : decode cX10_deliveryRate 20 = .ok (.invokespecial 279, 3) := by decide +kernel
theorem dX10_deliveryRate_23 : decode cX10_deliveryRate 23 = .ok (.athrow, 1) := by decide +kernel
theorem dX10_deliveryRate_24 : decode cX10_deliveryRate 24 = .ok (.aload_n 0, 1) := by decide +kernel
theorem dX10_deliveryRate_25 : decode cX10_deliveryRate 25 = .ok (.invokevirtual 290, 3) := by decide +kernel
theorem dX10_deliveryRate_28 : decode cX10_deliveryRate 28 = .ok (.freturn, 1) := by decide +kernel
theorem dX10_deliveryRateBits_0 : decode cX10_deliveryRateBits 0 = .ok (.aload_n 0, 1) := by decide +kernel
theorem dX10_deliveryRateBits_1 : decode cX10_deliveryRateBits 1 = .ok (.getfield 10, 3) := by decide +kernel
theorem dX10_deliveryRateBits_4 : decode cX10_deliveryRateBits 4 = .ok (.getfield 248, 3) := by decide +kernel
theorem dX10_deliveryRateBits_7 : decode cX10_deliveryRateBits 7 = .ok (.getfield 269, 3) := by decide +kernel
theorem dX10_deliveryRateBits_10 : decode cX10_deliveryRateBits 10 = .ok (.ifCond .ne 14, 3) := by decide +kernel
theorem dX10_deliveryRateBits_13 : decode cX10_deliveryRateBits 13 = .ok (.new 275, 3) := by decide +kernel
theorem dX10_deliveryRateBits_16 : decode cX10_deliveryRateBits 16 = .ok (.dup, 1) := by decide +kernel
theorem dX10_deliveryRateBits_17 : decode cX10_deliveryRateBits 17 = .ok (.ldc_w 288, 3) := by decide +kernel
theorem dX10_deliveryRateBits_20 : decode cX10_deliveryRateBits 20 = .ok (.invokespecial 279, 3) := by decide +kernel
theorem dX10_deliveryRateBits_23 : decode cX10_deliveryRateBits 23 = .ok (.athrow, 1) := by decide +kernel
theorem dX10_deliveryRateBits_24 : decode cX10_deliveryRateBits 24 = .ok (.aload_n 0, 1) := by decide +kernel
theorem dX10_deliveryRateBits_25 : decode cX10_deliveryRateBits 25 = .ok (.invokevirtual 290, 3) := by decide +kernel
theorem dX10_deliveryRateBits_28 : decode cX10_deliveryRateBits 28 = .ok (.f2d, 1) := by decide +kernel
theorem dX10_deliveryRateBits_29 : decode cX10_deliveryRateBits 29 = .ok (.bipush 23, 2) := by decide +kernel
theorem dX10_deliveryRateBits_31 : decode cX10_deliveryRateBits 31 = .ok (.bipush 127, 2) := by decide +kernel
theorem dX10_deliveryRateBits_33 : decode cX10_deliveryRateBits 33 = .ok (.invokestatic 284, 3) := by decide +kernel
theorem dX10_deliveryRateBits_36 : decode cX10_deliveryRateBits 36 = .ok (.l2i, 1) := by decide +kernel
theorem dX10_deliveryRateBits_37 : decode cX10_deliveryRateBits 37 = .ok (.ireturn, 1) := by decide +kernel
theorem dX10_isConsistent_0 : decode cX10_isConsistent 0 = .ok (.invokestatic 294, 3) := by decide +kernel
theorem dX10_isConsistent_3 : decode cX10_isConsistent 3 = .ok (.ifCond .eq 65, 3) := by decide +kernel
theorem dX10_isConsistent_6 : decode cX10_isConsistent 6 = .ok (.aload_n 0, 1) := by decide +kernel
theorem dX10_isConsistent_7 : decode cX10_isConsistent 7 = .ok (.getfield 10, 3) := by decide +kernel
theorem dX10_isConsistent_10 : decode cX10_isConsistent 10 = .ok (.getfield 183, 3) := by decide +kernel
theorem dX10_isConsistent_13 : decode cX10_isConsistent 13 = .ok (.aload_n 0, 1) := by decide +kernel
theorem dX10_isConsistent_14 : decode cX10_isConsistent 14 = .ok (.getfield 10, 3) := by decide +kernel
theorem dX10_isConsistent_17 : decode cX10_isConsistent 17 = .ok (.getfield 248, 3) := by decide +kernel
theorem dX10_isConsistent_20 : decode cX10_isConsistent 20 = .ok (.invokevirtual 272, 3) := by decide +kernel
theorem dX10_isConsistent_23 : decode cX10_isConsistent 23 = .ok (.if_icmp .ne 45, 3) := by decide +kernel
theorem dX10_isConsistent_26 : decode cX10_isConsistent 26 = .ok (.aload_n 0, 1) := by decide +kernel
theorem dX10_isConsistent_27 : decode cX10_isConsistent 27 = .ok (.getfield 10, 3) := by decide +kernel
theorem dX10_isConsistent_30 : decode cX10_isConsistent 30 = .ok (.bipush 102, 2) := by decide +kernel
theorem dX10_isConsistent_32 : decode cX10_isConsistent 32 = .ok (.invokevirtual 298, 3) := by decide +kernel
theorem dX10_isConsistent_35 : decode cX10_isConsistent 35 = .ok (.aload_n 0, 1) := by decide +kernel
theorem dX10_isConsistent_36 : decode cX10_isConsistent 36 = .ok (.getfield 10, 3) := by decide +kernel
theorem dX10_isConsistent_39 : decode cX10_isConsistent 39 = .ok (.invokevirtual 302, 3) := by decide +kernel
theorem dX10_isConsistent_42 : decode cX10_isConsistent 42 = .ok (.if_icmp .ne 26, 3) := by decide +kernel
theorem dX10_isConsistent_45 : decode cX10_isConsistent 45 = .ok (.aload_n 0, 1) := by decide +kernel
theorem dX10_isConsistent_46 : decode cX10_isConsistent 46 = .ok (.getfield 10, 3) := by decide +kernel
theorem dX10_isConsistent_49 : decode cX10_isConsistent 49 = .ok (.bipush 100, 2) := by decide +kernel
theorem dX10_isConsistent_51 : decode cX10_isConsistent 51 = .ok (.invokevirtual 298, 3) := by decide +kernel
theorem dX10_isConsistent_54 : decode cX10_isConsistent 54 = .ok (.aload_n 0, 1) := by decide +kernel
theorem dX10_isConsistent_55 : decode cX10_isConsistent 55 = .ok (.getfield 10, 3) := by decide +kernel
theorem dX10_isConsistent_58 : decode cX10_isConsistent 58 = .ok (.invokevirtual 305, 3) := by decide +kernel
theorem dX10_isConsistent_61 : decode cX10_isConsistent 61 = .ok (.if_icmp .ne 7, 3) := by decide +kernel
theorem dX10_isConsistent_64 : decode cX10_isConsistent 64 = .ok (.iconst 1, 1) := by decide +kernel
theorem dX10_isConsistent_65 : decode cX10_isConsistent 65 = .ok (.goto 4, 3) := by decide +kernel
theorem dX10_isConsistent_68 : decode cX10_isConsistent 68 = .ok (.iconst 0, 1) := by decide +kernel
theorem dX10_isConsistent_69 : decode cX10_isConsistent 69 = .ok (.ireturn, 1) := by decide +kernel
theorem dX10_meanOfAttempts_0 : decode cX10_meanOfAttempts 0 = .ok (.aload_n 0, 1) := by decide +kernel
theorem dX10_meanOfAttempts_1 : decode cX10_meanOfAttempts 1 = .ok (.getfield 10, 3) := by decide +kernel
theorem dX10_meanOfAttempts_4 : decode cX10_meanOfAttempts 4 = .ok (.invokevirtual 308, 3) := by decide +kernel
theorem dX10_meanOfAttempts_7 : decode cX10_meanOfAttempts 7 = .ok (.i2d, 1) := by decide +kernel
theorem dX10_meanOfAttempts_8 : decode cX10_meanOfAttempts 8 = .ok (.aload_n 0, 1) := by decide +kernel
theorem dX10_meanOfAttempts_9 : decode cX10_meanOfAttempts 9 = .ok (.getfield 10, 3) := by decide +kernel
theorem dX10_meanOfAttempts_12 : decode cX10_meanOfAttempts 12 = .ok (.getfield 183, 3) := by decide +kernel
theorem dX10_meanOfAttempts_15 : decode cX10_meanOfAttempts 15 = .ok (.i2d, 1) := by decide +kernel
theorem dX10_meanOfAttempts_16 : decode cX10_meanOfAttempts 16 = .ok (.ddiv, 1) := by decide +kernel
theorem dX10_meanOfAttempts_17 : decode cX10_meanOfAttempts 17 = .ok (.dreturn, 1) := by decide +kernel
theorem dX10_rateOfDeliveries_0 : decode cX10_rateOfDeliveries 0 = .ok (.aload_n 0, 1) := by decide +kernel
theorem dX10_rateOfDeliveries_1 : decode cX10_rateOfDeliveries 1 = .ok (.getfield 10, 3) := by decide +kernel
theorem dX10_rateOfDeliveries_4 : decode cX10_rateOfDeliveries 4 = .ok (.getfield 248, 3) := by decide +kernel
theorem dX10_rateOfDeliveries_7 : decode cX10_rateOfDeliveries 7 = .ok (.getfield 257, 3) := by decide +kernel
theorem dX10_rateOfDeliveries_10 : decode cX10_rateOfDeliveries 10 = .ok (.i2f, 1) := by decide +kernel
theorem dX10_rateOfDeliveries_11 : decode cX10_rateOfDeliveries 11 = .ok (.aload_n 0, 1) := by decide +kernel
theorem dX10_rateOfDeliveries_12 : decode cX10_rateOfDeliveries 12 = .ok (.getfield 10, 3) := by decide +kernel
theorem dX10_rateOfDeliveries_15 : decode cX10_rateOfDeliveries 15 = .ok (.getfield 248, 3) := by decide +kernel
theorem dX10_rateOfDeliveries_18 : decode cX10_rateOfDeliveries 18 = .ok (.getfield 269, 3) := by decide +kernel
theorem dX10_rateOfDeliveries_21 : decode cX10_rateOfDeliveries 21 = .ok (.i2f, 1) := by decide +kernel
theorem dX10_rateOfDeliveries_22 : decode cX10_rateOfDeliveries 22 = .ok (.fdiv, 1) := by decide +kernel
theorem dX10_rateOfDeliveries_23 : decode cX10_rateOfDeliveries 23 = .ok (.freturn, 1) := by decide +kernel
theorem dX10_bitsOf_0 : decode cX10_bitsOf 0 = .ok (.dload_n 0, 1) := by decide +kernel
theorem dX10_bitsOf_1 : decode cX10_bitsOf 1 = .ok (.dconst 0, 1) := by decide +kernel
theorem dX10_bitsOf_2 : decode cX10_bitsOf 2 = .ok (.dcmp .g, 1) := by decide +kernel
theorem dX10_bitsOf_3 : decode cX10_bitsOf 3 = .ok (.ifCond .gt 5, 3) := by decide +kernel
theorem dX10_bitsOf_6 : decode cX10_bitsOf 6 = .ok (.lconst 0, 1) := by decide +kernel
theorem dX10_bitsOf_7 : decode cX10_bitsOf 7 = .ok (.lreturn, 1) := by decide +kernel
theorem dX10_bitsOf_8 : decode cX10_bitsOf 8 = .ok (.dload_n 0, 1) := by decide +kernel
theorem dX10_bitsOf_9 : decode cX10_bitsOf 9 = .ok (.dstore 4, 2) := by decide +kernel
theorem dX10_bitsOf_11 : decode cX10_bitsOf 11 = .ok (.iconst 0, 1) := by decide +kernel
theorem dX10_bitsOf_12 : decode cX10_bitsOf 12 = .ok (.istore 6, 2) := by decide +kernel
theorem dX10_bitsOf_14 : decode cX10_bitsOf 14 = .ok (.iconst 0, 1) := by decide +kernel
theorem dX10_bitsOf_15 : decode cX10_bitsOf 15 = .ok (.istore 7, 2) := by decide +kernel
theorem dX10_bitsOf_17 : decode cX10_bitsOf 17 = .ok (.iload 7, 2) := by decide +kernel
theorem dX10_bitsOf_19 : decode cX10_bitsOf 19 = .ok (.sipush 1100, 3) := by decide +kernel
theorem dX10_bitsOf_22 : decode cX10_bitsOf 22 = .ok (.if_icmp .ge 29, 3) := by decide +kernel
theorem dX10_bitsOf_25 : decode cX10_bitsOf 25 = .ok (.dload 4, 2) := by decide +kernel
theorem dX10_bitsOf_27 : decode cX10_bitsOf 27 = .ok (.ldc2_w 311, 3) := by decide +kernel
theorem dX10_bitsOf_30 : decode cX10_bitsOf 30 = .ok (.dcmp .l, 1) := by decide +kernel
theorem dX10_bitsOf_31 : decode cX10_bitsOf 31 = .ok (.ifCond .lt 20, 3) := by decide +kernel
theorem dX10_bitsOf_34 : decode cX10_bitsOf 34 = .ok (.dload 4, 2) := by decide +kernel
theorem dX10_bitsOf_36 : decode cX10_bitsOf 36 = .ok (.ldc2_w 311, 3) := by decide +kernel
theorem dX10_bitsOf_39 : decode cX10_bitsOf 39 = .ok (.ddiv, 1) := by decide +kernel
theorem dX10_bitsOf_40 : decode cX10_bitsOf 40 = .ok (.dstore 4, 2) := by decide +kernel
theorem dX10_bitsOf_42 : decode cX10_bitsOf 42 = .ok (.iinc 6 1, 3) := by decide +kernel
theorem dX10_bitsOf_45 : decode cX10_bitsOf 45 = .ok (.iinc 7 1, 3) := by decide +kernel
theorem dX10_bitsOf_48 : decode cX10_bitsOf 48 = .ok (.goto (-31), 3) := by decide +kernel
theorem dX10_bitsOf_51 : decode cX10_bitsOf 51 = .ok (.iconst 0, 1) := by decide +kernel
theorem dX10_bitsOf_52 : decode cX10_bitsOf 52 = .ok (.istore 7, 2) := by decide +kernel
theorem dX10_bitsOf_54 : decode cX10_bitsOf 54 = .ok (.iload 7, 2) := by decide +kernel
theorem dX10_bitsOf_56 : decode cX10_bitsOf 56 = .ok (.sipush 1100, 3) := by decide +kernel
theorem dX10_bitsOf_59 : decode cX10_bitsOf 59 = .ok (.if_icmp .ge 27, 3) := by decide +kernel
theorem dX10_bitsOf_62 : decode cX10_bitsOf 62 = .ok (.dload 4, 2) := by decide +kernel
theorem dX10_bitsOf_64 : decode cX10_bitsOf 64 = .ok (.dconst 1, 1) := by decide +kernel
theorem dX10_bitsOf_65 : decode cX10_bitsOf 65 = .ok (.dcmp .g, 1) := by decide +kernel
theorem dX10_bitsOf_66 : decode cX10_bitsOf 66 = .ok (.ifCond .ge 20, 3) := by decide +kernel
theorem dX10_bitsOf_69 : decode cX10_bitsOf 69 = .ok (.dload 4, 2) := by decide +kernel
theorem dX10_bitsOf_71 : decode cX10_bitsOf 71 = .ok (.ldc2_w 311, 3) := by decide +kernel
theorem dX10_bitsOf_74 : decode cX10_bitsOf 74 = .ok (.dmul, 1) := by decide +kernel
theorem dX10_bitsOf_75 : decode cX10_bitsOf 75 = .ok (.dstore 4, 2) := by decide +kernel
theorem dX10_bitsOf_77 : decode cX10_bitsOf 77 = .ok (.iinc 6 (-1), 3) := by decide +kernel
theorem dX10_bitsOf_80 : decode cX10_bitsOf 80 = .ok (.iinc 7 1, 3) := by decide +kernel
theorem dX10_bitsOf_83 : decode cX10_bitsOf 83 = .ok (.goto (-29), 3) := by decide +kernel
theorem dX10_bitsOf_86 : decode cX10_bitsOf 86 = .ok (.dload 4, 2) := by decide +kernel
theorem dX10_bitsOf_88 : decode cX10_bitsOf 88 = .ok (.dconst 1, 1) := by decide +kernel
theorem dX10_bitsOf_89 : decode cX10_bitsOf 89 = .ok (.dsub, 1) := by decide +kernel
theorem dX10_bitsOf_90 : decode cX10_bitsOf 90 = .ok (.lconst 1, 1) := by decide +kernel
theorem dX10_bitsOf_91 : decode cX10_bitsOf 91 = .ok (.iload_n 2, 1) := by decide +kernel
theorem dX10_bitsOf_92 : decode cX10_bitsOf 92 = .ok (.lshl, 1) := by decide +kernel
theorem dX10_bitsOf_93 : decode cX10_bitsOf 93 = .ok (.l2d, 1) := by decide +kernel
theorem dX10_bitsOf_94 : decode cX10_bitsOf 94 = .ok (.dmul, 1) := by decide +kernel
theorem dX10_bitsOf_95 : decode cX10_bitsOf 95 = .ok (.d2l, 1) := by decide +kernel
theorem dX10_bitsOf_96 : decode cX10_bitsOf 96 = .ok (.lstore 7, 2) := by decide +kernel
theorem dX10_bitsOf_98 : decode cX10_bitsOf 98 = .ok (.iload 6, 2) := by decide +kernel
theorem dX10_bitsOf_100 : decode cX10_bitsOf 100 = .ok (.iload_n 3, 1) := by decide +kernel
theorem dX10_bitsOf_101 : decode cX10_bitsOf 101 = .ok (.iadd, 1) := by decide +kernel
theorem dX10_bitsOf_102 : decode cX10_bitsOf 102 = .ok (.i2l, 1) := by decide +kernel
theorem dX10_bitsOf_103 : decode cX10_bitsOf 103 = .ok (.iload_n 2, 1) := by decide +kernel
theorem dX10_bitsOf_104 : decode cX10_bitsOf 104 = .ok (.lshl, 1) := by decide +kernel
theorem dX10_bitsOf_105 : decode cX10_bitsOf 105 = .ok (.lload 7, 2) := by decide +kernel
theorem dX10_bitsOf_107 : decode cX10_bitsOf 107 = .ok (.ladd, 1) := by decide +kernel
theorem dX10_bitsOf_108 : decode cX10_bitsOf 108 = .ok (.lreturn, 1) := by decide +kernel
theorem dX10_napLengthsAgree_0 : decode cX10_napLengthsAgree 0 = .ok (.iconst 0, 1) := by decide +kernel
theorem dX10_napLengthsAgree_1 : decode cX10_napLengthsAgree 1 = .ok (.istore_n 0, 1) := by decide +kernel
theorem dX10_napLengthsAgree_2 : decode cX10_napLengthsAgree 2 = .ok (.iload_n 0, 1) := by decide +kernel
theorem dX10_napLengthsAgree_3 : decode cX10_napLengthsAgree 3 = .ok (.bipush 40, 2) := by decide +kernel
theorem dX10_napLengthsAgree_5 : decode cX10_napLengthsAgree 5 = .ok (.if_icmp .gt 23, 3) := by decide +kernel
theorem dX10_napLengthsAgree_8 : decode cX10_napLengthsAgree 8 = .ok (.iload_n 0, 1) := by decide +kernel
theorem dX10_napLengthsAgree_9 : decode cX10_napLengthsAgree 9 = .ok (.invokestatic 228, 3) := by decide +kernel
theorem dX10_napLengthsAgree_12 : decode cX10_napLengthsAgree 12 = .ok (.iload_n 0, 1) := by decide +kernel
theorem dX10_napLengthsAgree_13 : decode cX10_napLengthsAgree 13 = .ok (.invokestatic 232, 3) := by decide +kernel
theorem dX10_napLengthsAgree_16 : decode cX10_napLengthsAgree 16 = .ok (.lcmp, 1) := by decide +kernel
theorem dX10_napLengthsAgree_17 : decode cX10_napLengthsAgree 17 = .ok (.ifCond .eq 5, 3) := by decide +kernel
theorem dX10_napLengthsAgree_20 : decode cX10_napLengthsAgree 20 = .ok (.iconst 0, 1) := by decide +kernel
theorem dX10_napLengthsAgree_21 : decode cX10_napLengthsAgree 21 = .ok (.ireturn, 1) := by decide +kernel
theorem dX10_napLengthsAgree_22 : decode cX10_napLengthsAgree 22 = .ok (.iinc 0 1, 3) := by decide +kernel
theorem dX10_napLengthsAgree_25 : decode cX10_napLengthsAgree 25 = .ok (.goto (-23), 3) := by decide +kernel
theorem dX10_napLengthsAgree_28 : decode cX10_napLengthsAgree 28 = .ok (.iconst 1, 1) := by decide +kernel
theorem dX10_napLengthsAgree_29 : decode cX10_napLengthsAgree 29 = .ok (.ireturn, 1) := by decide +kernel
theorem dX10_type_0 : decode cX10_type 0 = .ok (.iload_n 1, 1) := by decide +kernel
theorem dX10_type_1 : decode cX10_type 1 = .ok (.bipush 32, 2) := by decide +kernel
theorem dX10_type_3 : decode cX10_type 3 = .ok (.if_icmp .lt 9, 3) := by decide +kernel
theorem dX10_type_6 : decode cX10_type 6 = .ok (.iload_n 1, 1) := by decide +kernel
theorem dX10_type_7 : decode cX10_type 7 = .ok (.bipush 126, 2) := by decide +kernel
theorem dX10_type_9 : decode cX10_type 9 = .ok (.if_icmp .le 14, 3) := by decide +kernel
theorem dX10_type_12 : decode cX10_type 12 = .ok (.new 91, 3) := by decide +kernel
theorem dX10_type_15 : decode cX10_type 15 = .ok (.dup, 1) := by decide +kernel
theorem dX10_type_16 : decode cX10_type 16 = .ok (.ldc_w 337, 3) := by decide +kernel
theorem dX10_type_19 : decode cX10_type 19 = .ok (.invokespecial 95, 3) := by decide +kernel
theorem dX10_type_22 : decode cX10_type 22 = .ok (.athrow, 1) := by decide +kernel
theorem dX10_type_23 : decode cX10_type 23 = .ok (.aload_n 0, 1) := by decide +kernel
theorem dX10_type_24 : decode cX10_type 24 = .ok (.getfield 35, 3) := by decide +kernel
theorem dX10_type_27 : decode cX10_type 27 = .ok (.getfield 339, 3) := by decide +kernel
theorem dX10_type_30 : decode cX10_type 30 = .ok (.bipush 60, 2) := by decide +kernel
theorem dX10_type_32 : decode cX10_type 32 = .ok (.if_icmp .lt 14, 3) := by decide +kernel
theorem dX10_type_35 : decode cX10_type 35 = .ok (.new 98, 3) := by decide +kernel
theorem dX10_type_38 : decode cX10_type 38 = .ok (.dup, 1) := by decide +kernel
theorem dX10_type_39 : decode cX10_type 39 = .ok (.ldc_w 341, 3) := by decide +kernel
theorem dX10_type_42 : decode cX10_type 42 = .ok (.invokespecial 102, 3) := by decide +kernel
theorem dX10_type_45 : decode cX10_type 45 = .ok (.athrow, 1) := by decide +kernel
theorem dX10_type_46 : decode cX10_type 46 = .ok (.aload_n 0, 1) := by decide +kernel
theorem dX10_type_47 : decode cX10_type 47 = .ok (.getfield 35, 3) := by decide +kernel
theorem dX10_type_50 : decode cX10_type 50 = .ok (.iload_n 1, 1) := by decide +kernel
theorem dX10_type_51 : decode cX10_type 51 = .ok (.invokevirtual 343, 3) := by decide +kernel
theorem dX10_type_54 : decode cX10_type 54 = .ok (.ireturn, 1) := by decide +kernel
theorem dX10_runScript_0 : decode cX10_runScript 0 = .ok (.aload_n 0, 1) := by decide +kernel
theorem dX10_runScript_1 : decode cX10_runScript 1 = .ok (.getfield 35, 3) := by decide +kernel
theorem dX10_runScript_4 : decode cX10_runScript 4 = .ok (.invokevirtual 345, 3) := by decide +kernel
theorem dX10_runScript_7 : decode cX10_runScript 7 = .ok (.istore_n 1, 1) := by decide +kernel
theorem dX10_runScript_8 : decode cX10_runScript 8 = .ok (.aload_n 0, 1) := by decide +kernel
theorem dX10_runScript_9 : decode cX10_runScript 9 = .ok (.getfield 35, 3) := by decide +kernel
theorem dX10_runScript_12 : decode cX10_runScript 12 = .ok (.iconst 0, 1) := by decide +kernel
theorem dX10_runScript_13 : decode cX10_runScript 13 = .ok (.putfield 339, 3) := by decide +kernel
theorem dX10_runScript_16 : decode cX10_runScript 16 = .ok (.iload_n 1, 1) := by decide +kernel
theorem dX10_runScript_17 : decode cX10_runScript 17 = .ok (.ifCond .ne 25, 3) := by decide +kernel
theorem dX10_runScript_20 : decode cX10_runScript 20 = .ok (.aload_n 0, 1) := by decide +kernel
theorem dX10_runScript_21 : decode cX10_runScript 21 = .ok (.aload_n 0, 1) := by decide +kernel
theorem dX10_runScript_22 : decode cX10_runScript 22 = .ok (.getfield 35, 3) := by decide +kernel
theorem dX10_runScript_25 : decode cX10_runScript 25 = .ok (.getfield 348, 3) := by decide +kernel
theorem dX10_runScript_28 : decode cX10_runScript 28 = .ok (.putfield 50, 3) := by decide +kernel
theorem dX10_runScript_31 : decode cX10_runScript 31 = .ok (.new 91, 3) := by decide +kernel
theorem dX10_runScript_34 : decode cX10_runScript 34 = .ok (.dup, 1) := by decide +kernel
theorem dX10_runScript_35 : decode cX10_runScript 35 = .ok (.ldc_w 351, 3) := by decide +kernel
theorem dX10_runScript_38 : decode cX10_runScript 38 = .ok (.invokespecial 95, 3) := by decide +kernel
theorem dX10_runScript_41 : decode cX10_runScript 41 = .ok (.athrow, 1) := by decide +kernel
theorem dX10_runScript_42 : decode cX10_runScript 42 = .ok (.aload_n 0, 1) := by decide +kernel
theorem dX10_runScript_43 : decode cX10_runScript 43 = .ok (.getfield 16, 3) := by decide +kernel
theorem dX10_runScript_46 : decode cX10_runScript 46 = .ok (.aload_n 0, 1) := by decide +kernel
theorem dX10_runScript_47 : decode cX10_runScript 47 = .ok (.getfield 10, 3) := by decide +kernel
theorem dX10_runScript_50 : decode cX10_runScript 50 = .ok (.invokevirtual 57, 3) := by decide +kernel
theorem dX10_runScript_53 : decode cX10_runScript 53 = .ok (.iconst 0, 1) := by decide +kernel
theorem dX10_runScript_54 : decode cX10_runScript 54 = .ok (.istore_n 2, 1) := by decide +kernel
theorem dX10_runScript_55 : decode cX10_runScript 55 = .ok (.iload_n 2, 1) := by decide +kernel
theorem dX10_runScript_56 : decode cX10_runScript 56 = .ok (.aload_n 0, 1) := by decide +kernel
theorem dX10_runScript_57 : decode cX10_runScript 57 = .ok (.getfield 35, 3) := by decide +kernel
theorem dX10_runScript_60 : decode cX10_runScript 60 = .ok (.getfield 353, 3) := by decide +kernel
theorem dX10_runScript_63 : decode cX10_runScript 63 = .ok (.if_icmp .ge 55, 3) := by decide +kernel
theorem dX10_runScript_66 : decode cX10_runScript 66 = .ok (.aload_n 0, 1) := by decide +kernel
theorem dX10_runScript_67 : decode cX10_runScript 67 = .ok (.getfield 10, 3) := by decide +kernel
theorem dX10_runScript_70 : decode cX10_runScript 70 = .ok (.aload_n 0, 1) := by decide +kernel
theorem dX10_runScript_71 : decode cX10_runScript 71 = .ok (.getfield 35, 3) := by decide +kernel
theorem dX10_runScript_74 : decode cX10_runScript 74 = .ok (.getfield 356, 3) := by decide +kernel
theorem dX10_runScript_77 : decode cX10_runScript 77 = .ok (.iload_n 2, 1) := by decide +kernel
theorem dX10_runScript_78 : decode cX10_runScript 78 = .ok (.aaload, 1) := by decide +kernel
theorem dX10_runScript_79 : decode cX10_runScript 79 = .ok (.invokevirtual 360, 3) := by decide +kernel
theorem dX10_runScript_82 : decode cX10_runScript 82 = .ok (.ifCond .ge 30, 3) := by decide +kernel
theorem dX10_runScript_85 : decode cX10_runScript 85 = .ok (.aload_n 0, 1) := by decide +kernel
theorem dX10_runScript_86 : decode cX10_runScript 86 = .ok (.getfield 10, 3) := by decide +kernel
theorem dX10_runScript_89 : decode cX10_runScript 89 = .ok (.aload_n 0, 1) := by decide +kernel
theorem dX10_runScript_90 : decode cX10_runScript 90 = .ok (.getfield 16, 3) := by decide +kernel
theorem dX10_runScript_93 : decode cX10_runScript 93 = .ok (.invokevirtual 57, 3) := by decide +kernel
theorem dX10_runScript_96 : decode cX10_runScript 96 = .ok (.aload_n 0, 1) := by decide +kernel
theorem dX10_runScript_97 : decode cX10_runScript 97 = .ok (.iload_n 2, 1) := by decide +kernel
theorem dX10_runScript_98 : decode cX10_runScript 98 = .ok (.putfield 54, 3) := by decide +kernel
theorem dX10_runScript_101 : decode cX10_runScript 101 = .ok (.new 98, 3) := by decide +kernel
theorem dX10_runScript_104 : decode cX10_runScript 104 = .ok (.dup, 1) := by decide +kernel
theorem dX10_runScript_105 : decode cX10_runScript 105 = .ok (.ldc_w 364, 3) := by decide +kernel
theorem dX10_runScript_108 : decode cX10_runScript 108 = .ok (.invokespecial 102, 3) := by decide +kernel
theorem dX10_runScript_111 : decode cX10_runScript 111 = .ok (.athrow, 1) := by decide +kernel
theorem dX10_runScript_112 : decode cX10_runScript 112 = .ok (.iinc 2 1, 3) := by decide +kernel
theorem dX10_runScript_115 : decode cX10_runScript 115 = .ok (.goto (-60), 3) := by decide +kernel
theorem dX10_runScript_118 : decode cX10_runScript 118 = .ok (.aload_n 0, 1) := by decide +kernel
theorem dX10_runScript_119 : decode cX10_runScript 119 = .ok (.getfield 28, 3) := by decide +kernel
theorem dX10_runScript_122 : decode cX10_runScript 122 = .ok (.aload_n 0, 1) := by decide +kernel
theorem dX10_runScript_123 : decode cX10_runScript 123 = .ok (.getfield 16, 3) := by decide +kernel
theorem dX10_runScript_126 : decode cX10_runScript 126 = .ok (.invokevirtual 113, 3) := by decide +kernel
theorem dX10_runScript_129 : decode cX10_runScript 129 = .ok (.aload_n 0, 1) := by decide +kernel
theorem dX10_runScript_130 : decode cX10_runScript 130 = .ok (.getfield 35, 3) := by decide +kernel
theorem dX10_runScript_133 : decode cX10_runScript 133 = .ok (.getfield 353, 3) := by decide +kernel
theorem dX10_runScript_136 : decode cX10_runScript 136 = .ok (.ireturn, 1) := by decide +kernel
theorem dX10_undo_0 : decode cX10_undo 0 = .ok (.aload_n 0, 1) := by decide +kernel
theorem dX10_undo_1 : decode cX10_undo 1 = .ok (.getfield 28, 3) := by decide +kernel
theorem dX10_undo_4 : decode cX10_undo 4 = .ok (.getfield 370, 3) := by decide +kernel
theorem dX10_undo_7 : decode cX10_undo 7 = .ok (.ifCond .ne 14, 3) := by decide +kernel
theorem dX10_undo_10 : decode cX10_undo 10 = .ok (.new 108, 3) := by decide +kernel
theorem dX10_undo_13 : decode cX10_undo 13 = .ok (.dup, 1) := by decide +kernel
theorem dX10_undo_14 : decode cX10_undo 14 = .ok (.ldc_w 373, 3) := by decide +kernel
theorem dX10_undo_17 : decode cX10_undo 17 = .ok (.invokespecial 112, 3) := by decide +kernel
theorem dX10_undo_20 : decode cX10_undo 20 = .ok (.athrow, 1) := by decide +kernel
theorem dX10_undo_21 : decode cX10_undo 21 = .ok (.aload_n 0, 1) := by decide +kernel
theorem dX10_undo_22 : decode cX10_undo 22 = .ok (.getfield 28, 3) := by decide +kernel
theorem dX10_undo_25 : decode cX10_undo 25 = .ok (.aload_n 0, 1) := by decide +kernel
theorem dX10_undo_26 : decode cX10_undo 26 = .ok (.getfield 10, 3) := by decide +kernel
theorem dX10_undo_29 : decode cX10_undo 29 = .ok (.invokevirtual 375, 3) := by decide +kernel
theorem dX10_undo_32 : decode cX10_undo 32 = .ok (.aload_n 0, 1) := by decide +kernel
theorem dX10_undo_33 : decode cX10_undo 33 = .ok (.getfield 28, 3) := by decide +kernel
theorem dX10_undo_36 : decode cX10_undo 36 = .ok (.getfield 370, 3) := by decide +kernel
theorem dX10_undo_39 : decode cX10_undo 39 = .ok (.ireturn, 1) := by decide +kernel
theorem dX10_save_0 : decode cX10_save 0 = .ok (.aload_n 0, 1) := by decide +kernel
theorem dX10_save_1 : decode cX10_save 1 = .ok (.getfield 22, 3) := by decide +kernel
theorem dX10_save_4 : decode cX10_save 4 = .ok (.aload_n 0, 1) := by decide +kernel
theorem dX10_save_5 : decode cX10_save 5 = .ok (.getfield 10, 3) := by decide +kernel
theorem dX10_save_8 : decode cX10_save 8 = .ok (.invokevirtual 57, 3) := by decide +kernel
theorem dX10_save_11 : decode cX10_save 11 = .ok (.aload_n 0, 1) := by decide +kernel
theorem dX10_save_12 : decode cX10_save 12 = .ok (.iconst 1, 1) := by decide +kernel
theorem dX10_save_13 : decode cX10_save 13 = .ok (.putfield 46, 3) := by decide +kernel
theorem dX10_save_16 : decode cX10_save 16 = .ok (.aload_n 0, 1) := by decide +kernel
theorem dX10_save_17 : decode cX10_save 17 = .ok (.getfield 10, 3) := by decide +kernel
theorem dX10_save_20 : decode cX10_save 20 = .ok (.getfield 183, 3) := by decide +kernel
theorem dX10_save_23 : decode cX10_save 23 = .ok (.ireturn, 1) := by decide +kernel
theorem dX10_restore_0 : decode cX10_restore 0 = .ok (.aload_n 0, 1) := by decide +kernel
theorem dX10_restore_1 : decode cX10_restore 1 = .ok (.getfield 46, 3) := by decide +kernel
theorem dX10_restore_4 : decode cX10_restore 4 = .ok (.ifCond .ne 14, 3) := by decide +kernel
theorem dX10_restore_7 : decode cX10_restore 7 = .ok (.new 98, 3) := by decide +kernel
theorem dX10_restore_10 : decode cX10_restore 10 = .ok (.dup, 1) := by decide +kernel
theorem dX10_restore_11 : decode cX10_restore 11 = .ok (.ldc_w 378, 3) := by decide +kernel
theorem dX10_restore_14 : decode cX10_restore 14 = .ok (.invokespecial 102, 3) := by decide +kernel
theorem dX10_restore_17 : decode cX10_restore 17 = .ok (.athrow, 1) := by decide +kernel
theorem dX10_restore_18 : decode cX10_restore 18 = .ok (.aload_n 0, 1) := by decide +kernel
theorem dX10_restore_19 : decode cX10_restore 19 = .ok (.getfield 10, 3) := by decide +kernel
theorem dX10_restore_22 : decode cX10_restore 22 = .ok (.aload_n 0, 1) := by decide +kernel
theorem dX10_restore_23 : decode cX10_restore 23 = .ok (.getfield 22, 3) := by decide +kernel
theorem dX10_restore_26 : decode cX10_restore 26 = .ok (.invokevirtual 57, 3) := by decide +kernel
theorem dX10_restore_29 : decode cX10_restore 29 = .ok (.aload_n 0, 1) := by decide +kernel
theorem dX10_restore_30 : decode cX10_restore 30 = .ok (.getfield 28, 3) := by decide +kernel
theorem dX10_restore_33 : decode cX10_restore 33 = .ok (.iconst 0, 1) := by decide +kernel
theorem dX10_restore_34 : decode cX10_restore 34 = .ok (.putfield 370, 3) := by decide +kernel
theorem dX10_restore_37 : decode cX10_restore 37 = .ok (.aload_n 0, 1) := by decide +kernel
theorem dX10_restore_38 : decode cX10_restore 38 = .ok (.getfield 10, 3) := by decide +kernel
theorem dX10_restore_41 : decode cX10_restore 41 = .ok (.getfield 183, 3) := by decide +kernel
theorem dX10_restore_44 : decode cX10_restore 44 = .ok (.ireturn, 1) := by decide +kernel
