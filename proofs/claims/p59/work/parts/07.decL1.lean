theorem dL_cell_0 : decode cL_cell 0 = .ok (.iload_n 1, 1) := by decide +kernel
theorem dL_cell_1 : decode cL_cell 1 = .ok (.aload_n 0, 1) := by decide +kernel
theorem dL_cell_2 : decode cL_cell 2 = .ok (.arraylength, 1) := by decide +kernel
theorem dL_cell_3 : decode cL_cell 3 = .ok (.if_icmp .ge 9, 3) := by decide +kernel
theorem dL_cell_6 : decode cL_cell 6 = .ok (.aload_n 0, 1) := by decide +kernel
theorem dL_cell_7 : decode cL_cell 7 = .ok (.iload_n 1, 1) := by decide +kernel
theorem dL_cell_8 : decode cL_cell 8 = .ok (.iaload, 1) := by decide +kernel
theorem dL_cell_9 : decode cL_cell 9 = .ok (.goto 7, 3) := by decide +kernel
theorem dL_cell_12 : decode cL_cell 12 = .ok (.ldc 7, 2) := by decide +kernel
theorem dL_cell_14 : decode cL_cell 14 = .ok (.iload_n 1, 1) := by decide +kernel
theorem dL_cell_15 : decode cL_cell 15 = .ok (.imul, 1) := by decide +kernel
theorem dL_cell_16 : decode cL_cell 16 = .ok (.ireturn, 1) := by decide +kernel
theorem dL_pick_0 : decode cL_pick 0 = .ok (.aload_n 0, 1) := by decide +kernel
theorem dL_pick_1 : decode cL_pick 1 = .ok (.iload_n 1, 1) := by decide +kernel
theorem dL_pick_2 : decode cL_pick 2 = .ok (.invokestatic 8, 3) := by decide +kernel
theorem dL_pick_5 : decode cL_pick 5 = .ok (.iconst 1, 1) := by decide +kernel
theorem dL_pick_6 : decode cL_pick 6 = .ok (.iushr, 1) := by decide +kernel
theorem dL_pick_7 : decode cL_pick 7 = .ok (.iload_n 2, 1) := by decide +kernel
theorem dL_pick_8 : decode cL_pick 8 = .ok (.irem, 1) := by decide +kernel
theorem dL_pick_9 : decode cL_pick 9 = .ok (.ireturn, 1) := by decide +kernel
theorem dL_addNest_0 : decode cL_addNest 0 = .ok (.aload_n 0, 1) := by decide +kernel
theorem dL_addNest_1 : decode cL_addNest 1 = .ok (.iload_n 1, 1) := by decide +kernel
theorem dL_addNest_2 : decode cL_addNest 2 = .ok (.iload_n 2, 1) := by decide +kernel
theorem dL_addNest_3 : decode cL_addNest 3 = .ok (.invokevirtual 14, 3) := by decide +kernel
theorem dL_addNest_6 : decode cL_addNest 6 = .ok (.ireturn, 1) := by decide +kernel
theorem dL_addNest_7 : decode cL_addNest 7 = .ok (.astore_n 3, 1) := by decide +kernel
theorem dL_addNest_8 : decode cL_addNest 8 = .ok (.bipush (-78), 2) := by decide +kernel
theorem dL_addNest_10 : decode cL_addNest 10 = .ok (.ireturn, 1) := by decide +kernel
theorem dL_addNest_11 : decode cL_addNest 11 = .ok (.astore_n 3, 1) := by decide +kernel
theorem dL_addNest_12 : decode cL_addNest 12 = .ok (.bipush (-79), 2) := by decide +kernel
theorem dL_addNest_14 : decode cL_addNest 14 = .ok (.ireturn, 1) := by decide +kernel
theorem dL_addCrow_0 : decode cL_addCrow 0 = .ok (.aload_n 0, 1) := by decide +kernel
theorem dL_addCrow_1 : decode cL_addCrow 1 = .ok (.invokevirtual 24, 3) := by decide +kernel
theorem dL_addCrow_4 : decode cL_addCrow 4 = .ok (.ireturn, 1) := by decide +kernel
theorem dL_addCrow_5 : decode cL_addCrow 5 = .ok (.astore_n 1, 1) := by decide +kernel
theorem dL_addCrow_6 : decode cL_addCrow 6 = .ok (.bipush (-79), 2) := by decide +kernel
theorem dL_addCrow_8 : decode cL_addCrow 8 = .ok (.ireturn, 1) := by decide +kernel
theorem dL_publish_0 : decode cL_publish 0 = .ok (.aload_n 0, 1) := by decide +kernel
theorem dL_publish_1 : decode cL_publish 1 = .ok (.iload_n 1, 1) := by decide +kernel
theorem dL_publish_2 : decode cL_publish 2 = .ok (.iload_n 2, 1) := by decide +kernel
theorem dL_publish_3 : decode cL_publish 3 = .ok (.invokevirtual 28, 3) := by decide +kernel
theorem dL_publish_6 : decode cL_publish 6 = .ok (.ireturn, 1) := by decide +kernel
theorem dL_publish_7 : decode cL_publish 7 = .ok (.astore_n 3, 1) := by decide +kernel
theorem dL_publish_8 : decode cL_publish 8 = .ok (.bipush (-77), 2) := by decide +kernel
theorem dL_publish_10 : decode cL_publish 10 = .ok (.ireturn, 1) := by decide +kernel
theorem dL_publish_11 : decode cL_publish 11 = .ok (.astore_n 3, 1) := by decide +kernel
theorem dL_publish_12 : decode cL_publish 12 = .ok (.bipush (-78), 2) := by decide +kernel
theorem dL_publish_14 : decode cL_publish 14 = .ok (.ireturn, 1) := by decide +kernel
theorem dL_publish_15 : decode cL_publish 15 = .ok (.astore_n 3, 1) := by decide +kernel
theorem dL_publish_16 : decode cL_publish 16 = .ok (.bipush (-79), 2) := by decide +kernel
theorem dL_publish_18 : decode cL_publish 18 = .ok (.ireturn, 1) := by decide +kernel
theorem dL_read_0 : decode cL_read 0 = .ok (.aload_n 0, 1) := by decide +kernel
theorem dL_read_1 : decode cL_read 1 = .ok (.iload_n 1, 1) := by decide +kernel
theorem dL_read_2 : decode cL_read 2 = .ok (.invokevirtual 33, 3) := by decide +kernel
theorem dL_read_5 : decode cL_read 5 = .ok (.ireturn, 1) := by decide +kernel
theorem dL_read_6 : decode cL_read 6 = .ok (.astore_n 2, 1) := by decide +kernel
theorem dL_read_7 : decode cL_read 7 = .ok (.bipush (-77), 2) := by decide +kernel
theorem dL_read_9 : decode cL_read 9 = .ok (.ireturn, 1) := by decide +kernel
theorem dL_read_10 : decode cL_read 10 = .ok (.astore_n 2, 1) := by decide +kernel
theorem dL_read_11 : decode cL_read 11 = .ok (.bipush (-75), 2) := by decide +kernel
theorem dL_read_13 : decode cL_read 13 = .ok (.ireturn, 1) := by decide +kernel
theorem dL_cancel_0 : decode cL_cancel 0 = .ok (.aload_n 0, 1) := by decide +kernel
theorem dL_cancel_1 : decode cL_cancel 1 = .ok (.iload_n 1, 1) := by decide +kernel
theorem dL_cancel_2 : decode cL_cancel 2 = .ok (.invokevirtual 39, 3) := by decide +kernel
theorem dL_cancel_5 : decode cL_cancel 5 = .ok (.ireturn, 1) := by decide +kernel
theorem dL_cancel_6 : decode cL_cancel 6 = .ok (.astore_n 2, 1) := by decide +kernel
theorem dL_cancel_7 : decode cL_cancel 7 = .ok (.bipush (-75), 2) := by decide +kernel
theorem dL_cancel_9 : decode cL_cancel 9 = .ok (.ireturn, 1) := by decide +kernel
theorem dL_cancel_10 : decode cL_cancel 10 = .ok (.astore_n 2, 1) := by decide +kernel
theorem dL_cancel_11 : decode cL_cancel 11 = .ok (.bipush (-79), 2) := by decide +kernel
theorem dL_cancel_13 : decode cL_cancel 13 = .ok (.ireturn, 1) := by decide +kernel
theorem dL_setWind_0 : decode cL_setWind 0 = .ok (.aload_n 0, 1) := by decide +kernel
theorem dL_setWind_1 : decode cL_setWind 1 = .ok (.iload_n 1, 1) := by decide +kernel
theorem dL_setWind_2 : decode cL_setWind 2 = .ok (.invokevirtual 42, 3) := by decide +kernel
theorem dL_setWind_5 : decode cL_setWind 5 = .ok (.ireturn, 1) := by decide +kernel
theorem dL_setWind_6 : decode cL_setWind 6 = .ok (.astore_n 2, 1) := by decide +kernel
theorem dL_setWind_7 : decode cL_setWind 7 = .ok (.bipush (-78), 2) := by decide +kernel
theorem dL_setWind_9 : decode cL_setWind 9 = .ok (.ireturn, 1) := by decide +kernel
theorem dL_forget_0 : decode cL_forget 0 = .ok (.aload_n 0, 1) := by decide +kernel
theorem dL_forget_1 : decode cL_forget 1 = .ok (.iload_n 1, 1) := by decide +kernel
theorem dL_forget_2 : decode cL_forget 2 = .ok (.invokevirtual 45, 3) := by decide +kernel
theorem dL_forget_5 : decode cL_forget 5 = .ok (.ireturn, 1) := by decide +kernel
theorem dL_forget_6 : decode cL_forget 6 = .ok (.astore_n 2, 1) := by decide +kernel
theorem dL_forget_7 : decode cL_forget 7 = .ok (.bipush (-77), 2) := by decide +kernel
theorem dL_forget_9 : decode cL_forget 9 = .ok (.ireturn, 1) := by decide +kernel
theorem dL_advance_0 : decode cL_advance 0 = .ok (.aload_n 0, 1) := by decide +kernel
theorem dL_advance_1 : decode cL_advance 1 = .ok (.iload_n 1, 1) := by decide +kernel
theorem dL_advance_2 : decode cL_advance 2 = .ok (.invokevirtual 48, 3) := by decide +kernel
theorem dL_advance_5 : decode cL_advance 5 = .ok (.ireturn, 1) := by decide +kernel
theorem dL_advance_6 : decode cL_advance 6 = .ok (.astore_n 2, 1) := by decide +kernel
theorem dL_advance_7 : decode cL_advance 7 = .ok (.bipush (-78), 2) := by decide +kernel
theorem dL_advance_9 : decode cL_advance 9 = .ok (.ireturn, 1) := by decide +kernel
theorem dL_distance_0 : decode cL_distance 0 = .ok (.aload_n 0, 1) := by decide +kernel
theorem dL_distance_1 : decode cL_distance 1 = .ok (.iload_n 1, 1) := by decide +kernel
theorem dL_distance_2 : decode cL_distance 2 = .ok (.invokevirtual 51, 3) := by decide +kernel
theorem dL_distance_5 : decode cL_distance 5 = .ok (.ireturn, 1) := by decide +kernel
theorem dL_distance_6 : decode cL_distance 6 = .ok (.astore_n 2, 1) := by decide +kernel
theorem dL_distance_7 : decode cL_distance 7 = .ok (.bipush (-77), 2) := by decide +kernel
theorem dL_distance_9 : decode cL_distance 9 = .ok (.ireturn, 1) := by decide +kernel
theorem dL_loss_0 : decode cL_loss 0 = .ok (.aload_n 0, 1) := by decide +kernel
theorem dL_loss_1 : decode cL_loss 1 = .ok (.iload_n 1, 1) := by decide +kernel
theorem dL_loss_2 : decode cL_loss 2 = .ok (.invokevirtual 54, 3) := by decide +kernel
theorem dL_loss_5 : decode cL_loss 5 = .ok (.ireturn, 1) := by decide +kernel
theorem dL_loss_6 : decode cL_loss 6 = .ok (.astore_n 2, 1) := by decide +kernel
theorem dL_loss_7 : decode cL_loss 7 = .ok (.bipush (-77), 2) := by decide +kernel
theorem dL_loss_9 : decode cL_loss 9 = .ok (.ireturn, 1) := by decide +kernel
theorem dL_inboxSize_0 : decode cL_inboxSize 0 = .ok (.aload_n 0, 1) := by decide +kernel
theorem dL_inboxSize_1 : decode cL_inboxSize 1 = .ok (.iload_n 1, 1) := by decide +kernel
theorem dL_inboxSize_2 : decode cL_inboxSize 2 = .ok (.invokevirtual 57, 3) := by decide +kernel
theorem dL_inboxSize_5 : decode cL_inboxSize 5 = .ok (.ireturn, 1) := by decide +kernel
theorem dL_inboxSize_6 : decode cL_inboxSize 6 = .ok (.astore_n 2, 1) := by decide +kernel
theorem dL_inboxSize_7 : decode cL_inboxSize 7 = .ok (.bipush (-77), 2) := by decide +kernel
theorem dL_inboxSize_9 : decode cL_inboxSize 9 = .ok (.ireturn, 1) := by decide +kernel
theorem dL_inboxMessage_0 : decode cL_inboxMessage 0 = .ok (.aload_n 0, 1) := by decide +kernel
theorem dL_inboxMessage_1 : decode cL_inboxMessage 1 = .ok (.iload_n 1, 1) := by decide +kernel
theorem dL_inboxMessage_2 : decode cL_inboxMessage 2 = .ok (.iload_n 2, 1) := by decide +kernel
theorem dL_inboxMessage_3 : decode cL_inboxMessage 3 = .ok (.invokevirtual 60, 3) := by decide +kernel
theorem dL_inboxMessage_6 : decode cL_inboxMessage 6 = .ok (.ireturn, 1) := by decide +kernel
theorem dL_inboxMessage_7 : decode cL_inboxMessage 7 = .ok (.astore_n 3, 1) := by decide +kernel
theorem dL_inboxMessage_8 : decode cL_inboxMessage 8 = .ok (.bipush (-77), 2) := by decide +kernel
theorem dL_inboxMessage_10 : decode cL_inboxMessage 10 = .ok (.ireturn, 1) := by decide +kernel
theorem dL_inboxMessage_11 : decode cL_inboxMessage 11 = .ok (.astore_n 3, 1) := by decide +kernel
theorem dL_inboxMessage_12 : decode cL_inboxMessage 12 = .ok (.bipush (-75), 2) := by decide +kernel
theorem dL_inboxMessage_14 : decode cL_inboxMessage 14 = .ok (.ireturn, 1) := by decide +kernel
theorem dL_remembers_0 : decode cL_remembers 0 = .ok (.aload_n 0, 1) := by decide +kernel
theorem dL_remembers_1 : decode cL_remembers 1 = .ok (.iload_n 1, 1) := by decide +kernel
theorem dL_remembers_2 : decode cL_remembers 2 = .ok (.iload_n 2, 1) := by decide +kernel
theorem dL_remembers_3 : decode cL_remembers 3 = .ok (.invokevirtual 63, 3) := by decide +kernel
theorem dL_remembers_6 : decode cL_remembers 6 = .ok (.ifCond .eq 7, 3) := by decide +kernel
theorem dL_remembers_9 : decode cL_remembers 9 = .ok (.iconst 1, 1) := by decide +kernel
theorem dL_remembers_10 : decode cL_remembers 10 = .ok (.goto 4, 3) := by decide +kernel
theorem dL_remembers_13 : decode cL_remembers 13 = .ok (.iconst 0, 1) := by decide +kernel
theorem dL_remembers_14 : decode cL_remembers 14 = .ok (.ireturn, 1) := by decide +kernel
theorem dL_remembers_15 : decode cL_remembers 15 = .ok (.astore_n 3, 1) := by decide +kernel
theorem dL_remembers_16 : decode cL_remembers 16 = .ok (.bipush (-77), 2) := by decide +kernel
theorem dL_remembers_18 : decode cL_remembers 18 = .ok (.ireturn, 1) := by decide +kernel
theorem dL_rememberedCount_0 : decode cL_rememberedCount 0 = .ok (.aload_n 0, 1) := by decide +kernel
theorem dL_rememberedCount_1 : decode cL_rememberedCount 1 = .ok (.iload_n 1, 1) := by decide +kernel
theorem dL_rememberedCount_2 : decode cL_rememberedCount 2 = .ok (.invokevirtual 67, 3) := by decide +kernel
theorem dL_rememberedCount_5 : decode cL_rememberedCount 5 = .ok (.ireturn, 1) := by decide +kernel
theorem dL_rememberedCount_6 : decode cL_rememberedCount 6 = .ok (.astore_n 2, 1) := by decide +kernel
theorem dL_rememberedCount_7 : decode cL_rememberedCount 7 = .ok (.bipush (-77), 2) := by decide +kernel
theorem dL_rememberedCount_9 : decode cL_rememberedCount 9 = .ok (.ireturn, 1) := by decide +kernel
theorem dL_nestByDeliveries_0 : decode cL_nestByDeliveries 0 = .ok (.aload_n 0, 1) := by decide +kernel
theorem dL_nestByDeliveries_1 : decode cL_nestByDeliveries 1 = .ok (.iload_n 1, 1) := by decide +kernel
theorem dL_nestByDeliveries_2 : decode cL_nestByDeliveries 2 = .ok (.invokevirtual 70, 3) := by decide +kernel
theorem dL_nestByDeliveries_5 : decode cL_nestByDeliveries 5 = .ok (.ireturn, 1) := by decide +kernel
theorem dL_nestByDeliveries_6 : decode cL_nestByDeliveries 6 = .ok (.astore_n 2, 1) := by decide +kernel
theorem dL_nestByDeliveries_7 : decode cL_nestByDeliveries 7 = .ok (.bipush (-75), 2) := by decide +kernel
theorem dL_nestByDeliveries_9 : decode cL_nestByDeliveries 9 = .ok (.ireturn, 1) := by decide +kernel
theorem dL_isFlying_0 : decode cL_isFlying 0 = .ok (.aload_n 0, 1) := by decide +kernel
theorem dL_isFlying_1 : decode cL_isFlying 1 = .ok (.iload_n 1, 1) := by decide +kernel
theorem dL_isFlying_2 : decode cL_isFlying 2 = .ok (.invokevirtual 73, 3) := by decide +kernel
theorem dL_isFlying_5 : decode cL_isFlying 5 = .ok (.ifCond .eq 7, 3) := by decide +kernel
theorem dL_isFlying_8 : decode cL_isFlying 8 = .ok (.iconst 1, 1) := by decide +kernel
theorem dL_isFlying_9 : decode cL_isFlying 9 = .ok (.goto 4, 3) := by decide +kernel
theorem dL_isFlying_12 : decode cL_isFlying 12 = .ok (.iconst 0, 1) := by decide +kernel
theorem dL_isFlying_13 : decode cL_isFlying 13 = .ok (.ireturn, 1) := by decide +kernel
theorem dL_isFlying_14 : decode cL_isFlying 14 = .ok (.astore_n 2, 1) := by decide +kernel
theorem dL_isFlying_15 : decode cL_isFlying 15 = .ok (.bipush (-77), 2) := by decide +kernel
theorem dL_isFlying_17 : decode cL_isFlying 17 = .ok (.ireturn, 1) := by decide +kernel
theorem dL_carriedMessage_0 : decode cL_carriedMessage 0 = .ok (.aload_n 0, 1) := by decide +kernel
theorem dL_carriedMessage_1 : decode cL_carriedMessage 1 = .ok (.iload_n 1, 1) := by decide +kernel
theorem dL_carriedMessage_2 : decode cL_carriedMessage 2 = .ok (.invokevirtual 77, 3) := by decide +kernel
theorem dL_carriedMessage_5 : decode cL_carriedMessage 5 = .ok (.ireturn, 1) := by decide +kernel
theorem dL_carriedMessage_6 : decode cL_carriedMessage 6 = .ok (.astore_n 2, 1) := by decide +kernel
theorem dL_carriedMessage_7 : decode cL_carriedMessage 7 = .ok (.bipush (-77), 2) := by decide +kernel
theorem dL_carriedMessage_9 : decode cL_carriedMessage 9 = .ok (.ireturn, 1) := by decide +kernel
theorem dL_carriedMessage_10 : decode cL_carriedMessage 10 = .ok (.astore_n 2, 1) := by decide +kernel
theorem dL_carriedMessage_11 : decode cL_carriedMessage 11 = .ok (.bipush (-75), 2) := by decide +kernel
theorem dL_carriedMessage_13 : decode cL_carriedMessage 13 = .ok (.ireturn, 1) := by decide +kernel
theorem dL_flightMinutes_0 : decode cL_flightMinutes 0 = .ok (.aload_n 0, 1) := by decide +kernel
theorem dL_flightMinutes_1 : decode cL_flightMinutes 1 = .ok (.iload_n 1, 1) := by decide +kernel
theorem dL_flightMinutes_2 : decode cL_flightMinutes 2 = .ok (.invokevirtual 80, 3) := by decide +kernel
theorem dL_flightMinutes_5 : decode cL_flightMinutes 5 = .ok (.ireturn, 1) := by decide +kernel
theorem dL_flightMinutes_6 : decode cL_flightMinutes 6 = .ok (.astore_n 2, 1) := by decide +kernel
theorem dL_flightMinutes_7 : decode cL_flightMinutes 7 = .ok (.bipush (-77), 2) := by decide +kernel
theorem dL_flightMinutes_9 : decode cL_flightMinutes 9 = .ok (.ireturn, 1) := by decide +kernel
theorem dL_messageAt_0 : decode cL_messageAt 0 = .ok (.aload_n 0, 1) := by decide +kernel
theorem dL_messageAt_1 : decode cL_messageAt 1 = .ok (.iload_n 1, 1) := by decide +kernel
theorem dL_messageAt_2 : decode cL_messageAt 2 = .ok (.invokevirtual 83, 3) := by decide +kernel
theorem dL_messageAt_5 : decode cL_messageAt 5 = .ok (.ireturn, 1) := by decide +kernel
theorem dL_messageAt_6 : decode cL_messageAt 6 = .ok (.astore_n 2, 1) := by decide +kernel
theorem dL_messageAt_7 : decode cL_messageAt 7 = .ok (.bipush (-75), 2) := by decide +kernel
theorem dL_messageAt_9 : decode cL_messageAt 9 = .ok (.ireturn, 1) := by decide +kernel
theorem dL_nestOf_0 : decode cL_nestOf 0 = .ok (.aload_n 0, 1) := by decide +kernel
theorem dL_nestOf_1 : decode cL_nestOf 1 = .ok (.iload_n 1, 1) := by decide +kernel
theorem dL_nestOf_2 : decode cL_nestOf 2 = .ok (.invokevirtual 86, 3) := by decide +kernel
theorem dL_nestOf_5 : decode cL_nestOf 5 = .ok (.ireturn, 1) := by decide +kernel
theorem dL_nestOf_6 : decode cL_nestOf 6 = .ok (.astore_n 2, 1) := by decide +kernel
theorem dL_nestOf_7 : decode cL_nestOf 7 = .ok (.bipush (-75), 2) := by decide +kernel
theorem dL_nestOf_9 : decode cL_nestOf 9 = .ok (.ireturn, 1) := by decide +kernel
theorem dL_keyOf_0 : decode cL_keyOf 0 = .ok (.aload_n 0, 1) := by decide +kernel
theorem dL_keyOf_1 : decode cL_keyOf 1 = .ok (.iload_n 1, 1) := by decide +kernel
theorem dL_keyOf_2 : decode cL_keyOf 2 = .ok (.invokevirtual 89, 3) := by decide +kernel
theorem dL_keyOf_5 : decode cL_keyOf 5 = .ok (.ireturn, 1) := by decide +kernel
theorem dL_keyOf_6 : decode cL_keyOf 6 = .ok (.astore_n 2, 1) := by decide +kernel
theorem dL_keyOf_7 : decode cL_keyOf 7 = .ok (.bipush (-75), 2) := by decide +kernel
theorem dL_keyOf_9 : decode cL_keyOf 9 = .ok (.ireturn, 1) := by decide +kernel
theorem dL_attempts_0 : decode cL_attempts 0 = .ok (.aload_n 0, 1) := by decide +kernel
theorem dL_attempts_1 : decode cL_attempts 1 = .ok (.iload_n 1, 1) := by decide +kernel
theorem dL_attempts_2 : decode cL_attempts 2 = .ok (.invokevirtual 92, 3) := by decide +kernel
theorem dL_attempts_5 : decode cL_attempts 5 = .ok (.ireturn, 1) := by decide +kernel
theorem dL_attempts_6 : decode cL_attempts 6 = .ok (.astore_n 2, 1) := by decide +kernel
theorem dL_attempts_7 : decode cL_attempts 7 = .ok (.bipush (-75), 2) := by decide +kernel
theorem dL_attempts_9 : decode cL_attempts 9 = .ok (.ireturn, 1) := by decide +kernel
theorem dL_status_0 : decode cL_status 0 = .ok (.aload_n 0, 1) := by decide +kernel
theorem dL_status_1 : decode cL_status 1 = .ok (.iload_n 1, 1) := by decide +kernel
theorem dL_status_2 : decode cL_status 2 = .ok (.invokevirtual 95, 3) := by decide +kernel
theorem dL_status_5 : decode cL_status 5 = .ok (.ireturn, 1) := by decide +kernel
theorem dL_status_6 : decode cL_status 6 = .ok (.astore_n 2, 1) := by decide +kernel
theorem dL_status_7 : decode cL_status 7 = .ok (.bipush (-75), 2) := by decide +kernel
theorem dL_status_9 : decode cL_status 9 = .ok (.ireturn, 1) := by decide +kernel
theorem dL_napMinutes_0 : decode cL_napMinutes 0 = .ok (.aload_n 0, 1) := by decide +kernel
theorem dL_napMinutes_1 : decode cL_napMinutes 1 = .ok (.iload_n 1, 1) := by decide +kernel
theorem dL_napMinutes_2 : decode cL_napMinutes 2 = .ok (.invokevirtual 99, 3) := by decide +kernel
theorem dL_napMinutes_5 : decode cL_napMinutes 5 = .ok (.ireturn, 1) := by decide +kernel
theorem dL_napMinutes_6 : decode cL_napMinutes 6 = .ok (.astore_n 2, 1) := by decide +kernel
theorem dL_napMinutes_7 : decode cL_napMinutes 7 = .ok (.bipush (-75), 2) := by decide +kernel
theorem dL_napMinutes_9 : decode cL_napMinutes 9 = .ok (.ireturn, 1) := by decide +kernel
theorem dL_napMinutes_10 : decode cL_napMinutes 10 = .ok (.astore_n 2, 1) := by decide +kernel
theorem dL_napMinutes_11 : decode cL_napMinutes 11 = .ok (.bipush (-79), 2) := by decide +kernel
theorem dL_napMinutes_13 : decode cL_napMinutes 13 = .ok (.ireturn, 1) := by decide +kernel
theorem dL_waitingMessage_0 : decode cL_waitingMessage 0 = .ok (.aload_n 0, 1) := by decide +kernel
theorem dL_waitingMessage_1 : decode cL_waitingMessage 1 = .ok (.iload_n 1, 1) := by decide +kernel
theorem dL_waitingMessage_2 : decode cL_waitingMessage 2 = .ok (.invokevirtual 102, 3) := by decide +kernel
theorem dL_waitingMessage_5 : decode cL_waitingMessage 5 = .ok (.ireturn, 1) := by decide +kernel
theorem dL_waitingMessage_6 : decode cL_waitingMessage 6 = .ok (.astore_n 2, 1) := by decide +kernel
theorem dL_waitingMessage_7 : decode cL_waitingMessage 7 = .ok (.bipush (-75), 2) := by decide +kernel
theorem dL_waitingMessage_9 : decode cL_waitingMessage 9 = .ok (.ireturn, 1) := by decide +kernel
theorem dL_wouldBeLost_0 : decode cL_wouldBeLost 0 = .ok (.aload_n 0, 1) := by decide +kernel
theorem dL_wouldBeLost_1 : decode cL_wouldBeLost 1 = .ok (.iload_n 1, 1) := by decide +kernel
theorem dL_wouldBeLost_2 : decode cL_wouldBeLost 2 = .ok (.invokevirtual 105, 3) := by decide +kernel
theorem dL_wouldBeLost_5 : decode cL_wouldBeLost 5 = .ok (.ifCond .eq 7, 3) := by decide +kernel
theorem dL_wouldBeLost_8 : decode cL_wouldBeLost 8 = .ok (.iconst 1, 1) := by decide +kernel
theorem dL_wouldBeLost_9 : decode cL_wouldBeLost 9 = .ok (.goto 4, 3) := by decide +kernel
theorem dL_wouldBeLost_12 : decode cL_wouldBeLost 12 = .ok (.iconst 0, 1) := by decide +kernel
theorem dL_wouldBeLost_13 : decode cL_wouldBeLost 13 = .ok (.ireturn, 1) := by decide +kernel
theorem dL_wouldBeLost_14 : decode cL_wouldBeLost 14 = .ok (.astore_n 2, 1) := by decide +kernel
theorem dL_wouldBeLost_15 : decode cL_wouldBeLost 15 = .ok (.bipush (-75), 2) := by decide +kernel
theorem dL_wouldBeLost_17 : decode cL_wouldBeLost 17 = .ok (.ireturn, 1) := by decide +kernel
theorem dL_wouldBeLost_18 : decode cL_wouldBeLost 18 = .ok (.astore_n 2, 1) := by decide +kernel
theorem dL_wouldBeLost_19 : decode cL_wouldBeLost 19 = .ok (.bipush (-79), 2) := by decide +kernel
theorem dL_wouldBeLost_21 : decode cL_wouldBeLost 21 = .ok (.ireturn, 1) := by decide +kernel
theorem dL_napLength_0 : decode cL_napLength 0 = .ok (.aload_n 0, 1) := by decide +kernel
theorem dL_napLength_1 : decode cL_napLength 1 = .ok (.iload_n 1, 1) := by decide +kernel
theorem dL_napLength_2 : decode cL_napLength 2 = .ok (.invokevirtual 108, 3) := by decide +kernel
theorem dL_napLength_5 : decode cL_napLength 5 = .ok (.lreturn, 1) := by decide +kernel
theorem dL_napLength_6 : decode cL_napLength 6 = .ok (.astore_n 2, 1) := by decide +kernel
theorem dL_napLength_7 : decode cL_napLength 7 = .ok (.ldc2_w 112, 3) := by decide +kernel
theorem dL_napLength_10 : decode cL_napLength 10 = .ok (.lreturn, 1) := by decide +kernel
theorem dL_napLengthByDoubling_0 : decode cL_napLengthByDoubling 0 = .ok (.aload_n 0, 1) := by decide +kernel
theorem dL_napLengthByDoubling_1 : decode cL_napLengthByDoubling 1 = .ok (.iload_n 1, 1) := by decide +kernel
theorem dL_napLengthByDoubling_2 : decode cL_napLengthByDoubling 2 = .ok (.invokevirtual 114, 3) := by decide +kernel
theorem dL_napLengthByDoubling_5 : decode cL_napLengthByDoubling 5 = .ok (.lreturn, 1) := by decide +kernel
theorem dL_napLengthByDoubling_6 : decode cL_napLengthByDoubling 6 = .ok (.astore_n 2, 1) := by decide +kernel
theorem dL_napLengthByDoubling_7 : decode cL_napLengthByDoubling 7 = .ok (.ldc2_w 112, 3) := by decide +kernel
theorem dL_napLengthByDoubling_10 : decode cL_napLengthByDoubling 10 = .ok (.lreturn, 1) := by decide +kernel
theorem dL_minutesUntilDelivered_0 : decode cL_minutesUntilDelivered 0 = .ok (.aload_n 0, 1) := by decide +kernel
theorem dL_minutesUntilDelivered_1 : decode cL_minutesUntilDelivered 1 = .ok (.iload_n 1, 1) := by decide +kernel
theorem dL_minutesUntilDelivered_2 : decode cL_minutesUntilDelivered 2 = .ok (.invokevirtual 117, 3) := by decide +kernel
theorem dL_minutesUntilDelivered_5 : decode cL_minutesUntilDelivered 5 = .ok (.ireturn, 1) := by decide +kernel
theorem dL_minutesUntilDelivered_6 : decode cL_minutesUntilDelivered 6 = .ok (.astore_n 2, 1) := by decide +kernel
theorem dL_minutesUntilDelivered_7 : decode cL_minutesUntilDelivered 7 = .ok (.bipush (-75), 2) := by decide +kernel
theorem dL_minutesUntilDelivered_9 : decode cL_minutesUntilDelivered 9 = .ok (.ireturn, 1) := by decide +kernel
theorem dL_minutesUntilDelivered_10 : decode cL_minutesUntilDelivered 10 = .ok (.astore_n 2, 1) := by decide +kernel
theorem dL_minutesUntilDelivered_11 : decode cL_minutesUntilDelivered 11 = .ok (.bipush (-79), 2) := by decide +kernel
theorem dL_minutesUntilDelivered_13 : decode cL_minutesUntilDelivered 13 = .ok (.ireturn, 1) := by decide +kernel
theorem dL_meanAttempts_0 : decode cL_meanAttempts 0 = .ok (.aload_n 0, 1) := by decide +kernel
theorem dL_meanAttempts_1 : decode cL_meanAttempts 1 = .ok (.invokevirtual 120, 3) := by decide +kernel
theorem dL_meanAttempts_4 : decode cL_meanAttempts 4 = .ok (.dreturn, 1) := by decide +kernel
theorem dL_meanAttempts_5 : decode cL_meanAttempts 5 = .ok (.astore_n 1, 1) := by decide +kernel
theorem dL_meanAttempts_6 : decode cL_meanAttempts 6 = .ok (.ldc2_w 126, 3) := by decide +kernel
theorem dL_meanAttempts_9 : decode cL_meanAttempts 9 = .ok (.dreturn, 1) := by decide +kernel
theorem dL_meanAttemptsBits_0 : decode cL_meanAttemptsBits 0 = .ok (.aload_n 0, 1) := by decide +kernel
theorem dL_meanAttemptsBits_1 : decode cL_meanAttemptsBits 1 = .ok (.invokevirtual 128, 3) := by decide +kernel
theorem dL_meanAttemptsBits_4 : decode cL_meanAttemptsBits 4 = .ok (.lreturn, 1) := by decide +kernel
theorem dL_meanAttemptsBits_5 : decode cL_meanAttemptsBits 5 = .ok (.astore_n 1, 1) := by decide +kernel
theorem dL_meanAttemptsBits_6 : decode cL_meanAttemptsBits 6 = .ok (.ldc2_w 132, 3) := by decide +kernel
theorem dL_meanAttemptsBits_9 : decode cL_meanAttemptsBits 9 = .ok (.lreturn, 1) := by decide +kernel
theorem dL_deliveryRate_0 : decode cL_deliveryRate 0 = .ok (.aload_n 0, 1) := by decide +kernel
theorem dL_deliveryRate_1 : decode cL_deliveryRate 1 = .ok (.invokevirtual 134, 3) := by decide +kernel
theorem dL_deliveryRate_4 : decode cL_deliveryRate 4 = .ok (.freturn, 1) := by decide +kernel
theorem dL_deliveryRate_5 : decode cL_deliveryRate 5 = .ok (.astore_n 1, 1) := by decide +kernel
theorem dL_deliveryRate_6 : decode cL_deliveryRate 6 = .ok (.ldc 138, 2) := by decide +kernel
theorem dL_deliveryRate_8 : decode cL_deliveryRate 8 = .ok (.freturn, 1) := by decide +kernel
theorem dL_deliveryRateBits_0 : decode cL_deliveryRateBits 0 = .ok (.aload_n 0, 1) := by decide +kernel
theorem dL_deliveryRateBits_1 : decode cL_deliveryRateBits 1 = .ok (.invokevirtual 139, 3) := by decide +kernel
theorem dL_deliveryRateBits_4 : decode cL_deliveryRateBits 4 = .ok (.ireturn, 1) := by decide +kernel
theorem dL_deliveryRateBits_5 : decode cL_deliveryRateBits 5 = .ok (.astore_n 1, 1) := by decide +kernel
theorem dL_deliveryRateBits_6 : decode cL_deliveryRateBits 6 = .ok (.bipush (-74), 2) := by decide +kernel
theorem dL_deliveryRateBits_8 : decode cL_deliveryRateBits 8 = .ok (.ireturn, 1) := by decide +kernel
theorem dL_type_0 : decode cL_type 0 = .ok (.aload_n 0, 1) := by decide +kernel
theorem dL_type_1 : decode cL_type 1 = .ok (.iload_n 1, 1) := by decide +kernel
theorem dL_type_2 : decode cL_type 2 = .ok (.invokevirtual 148, 3) := by decide +kernel
theorem dL_type_5 : decode cL_type 5 = .ok (.ireturn, 1) := by decide +kernel
theorem dL_type_6 : decode cL_type 6 = .ok (.astore_n 2, 1) := by decide +kernel
theorem dL_type_7 : decode cL_type 7 = .ok (.bipush (-78), 2) := by decide +kernel
theorem dL_type_9 : decode cL_type 9 = .ok (.ireturn, 1) := by decide +kernel
theorem dL_type_10 : decode cL_type 10 = .ok (.astore_n 2, 1) := by decide +kernel
theorem dL_type_11 : decode cL_type 11 = .ok (.bipush (-79), 2) := by decide +kernel
theorem dL_type_13 : decode cL_type 13 = .ok (.ireturn, 1) := by decide +kernel
theorem dL_runScript_0 : decode cL_runScript 0 = .ok (.aload_n 0, 1) := by decide +kernel
theorem dL_runScript_1 : decode cL_runScript 1 = .ok (.invokevirtual 152, 3) := by decide +kernel
theorem dL_runScript_4 : decode cL_runScript 4 = .ok (.ireturn, 1) := by decide +kernel
theorem dL_runScript_5 : decode cL_runScript 5 = .ok (.astore_n 1, 1) := by decide +kernel
theorem dL_runScript_6 : decode cL_runScript 6 = .ok (.bipush (-78), 2) := by decide +kernel
theorem dL_runScript_8 : decode cL_runScript 8 = .ok (.ireturn, 1) := by decide +kernel
theorem dL_runScript_9 : decode cL_runScript 9 = .ok (.astore_n 1, 1) := by decide +kernel
theorem dL_runScript_10 : decode cL_runScript 10 = .ok (.bipush (-79), 2) := by decide +kernel
theorem dL_runScript_12 : decode cL_runScript 12 = .ok (.ireturn, 1) := by decide +kernel
theorem dL_undo_0 : decode cL_undo 0 = .ok (.aload_n 0, 1) := by decide +kernel
theorem dL_undo_1 : decode cL_undo 1 = .ok (.invokevirtual 161, 3) := by decide +kernel
theorem dL_undo_4 : decode cL_undo 4 = .ok (.ireturn, 1) := by decide +kernel
theorem dL_undo_5 : decode cL_undo 5 = .ok (.astore_n 1, 1) := by decide +kernel
theorem dL_undo_6 : decode cL_undo 6 = .ok (.bipush (-75), 2) := by decide +kernel
theorem dL_undo_8 : decode cL_undo 8 = .ok (.ireturn, 1) := by decide +kernel
theorem dL_restore_0 : decode cL_restore 0 = .ok (.aload_n 0, 1) := by decide +kernel
theorem dL_restore_1 : decode cL_restore 1 = .ok (.invokevirtual 164, 3) := by decide +kernel
theorem dL_restore_4 : decode cL_restore 4 = .ok (.ireturn, 1) := by decide +kernel
theorem dL_restore_5 : decode cL_restore 5 = .ok (.astore_n 1, 1) := by decide +kernel
theorem dL_restore_6 : decode cL_restore 6 = .ok (.bipush (-79), 2) := by decide +kernel
theorem dL_restore_8 : decode cL_restore 8 = .ok (.ireturn, 1) := by decide +kernel
theorem dL_runs_0 : decode cL_runs 0 = .ok (.iconst 0, 1) := by decide +kernel
theorem dL_runs_1 : decode cL_runs 1 = .ok (.istore_n 2, 1) := by decide +kernel
theorem dL_runs_2 : decode cL_runs 2 = .ok (.iload_n 2, 1) := by decide +kernel
theorem dL_runs_3 : decode cL_runs 3 = .ok (.aload_n 1, 1) := by decide +kernel
theorem dL_runs_4 : decode cL_runs 4 = .ok (.invokevirtual 167, 3) := by decide +kernel
theorem dL_runs_7 : decode cL_runs 7 = .ok (.if_icmp .ge 19, 3) := by decide +kernel
theorem dL_runs_10 : decode cL_runs 10 = .ok (.aload_n 0, 1) := by decide +kernel
theorem dL_runs_11 : decode cL_runs 11 = .ok (.aload_n 1, 1) := by decide +kernel
theorem dL_runs_12 : decode cL_runs 12 = .ok (.iload_n 2, 1) := by decide +kernel
theorem dL_runs_13 : decode cL_runs 13 = .ok (.invokevirtual 172, 3) := by decide +kernel
theorem dL_runs_16 : decode cL_runs 16 = .ok (.invokestatic 175, 3) := by decide +kernel
theorem dL_runs_19 : decode cL_runs 19 = .ok (.istore_n 3, 1) := by decide +kernel
theorem dL_runs_20 : decode cL_runs 20 = .ok (.iinc 2 1, 3) := by decide +kernel
theorem dL_runs_23 : decode cL_runs 23 = .ok (.goto (-21), 3) := by decide +kernel
theorem dL_runs_26 : decode cL_runs 26 = .ok (.aload_n 0, 1) := by decide +kernel
theorem dL_runs_27 : decode cL_runs 27 = .ok (.invokestatic 178, 3) := by decide +kernel
theorem dL_runs_30 : decode cL_runs 30 = .ok (.ireturn, 1) := by decide +kernel
theorem dL_law_0 : decode cL_law 0 = .ok (.new 15, 3) := by decide +kernel
theorem dL_law_3 : decode cL_law 3 = .ok (.dup, 1) := by decide +kernel
theorem dL_law_4 : decode cL_law 4 = .ok (.invokespecial 184, 3) := by decide +kernel
theorem dL_law_7 : decode cL_law 7 = .ok (.astore_n 1, 1) := by decide +kernel
theorem dL_law_8 : decode cL_law 8 = .ok (.bipush 80, 2) := by decide +kernel
theorem dL_law_10 : decode cL_law 10 = .ok (.newarray .long, 2) := by decide +kernel
theorem dL_law_12 : decode cL_law 12 = .ok (.astore_n 2, 1) := by decide +kernel
theorem dL_law_13 : decode cL_law 13 = .ok (.iconst 0, 1) := by decide +kernel
theorem dL_law_14 : decode cL_law 14 = .ok (.istore_n 3, 1) := by decide +kernel
theorem dL_law_15 : decode cL_law 15 = .ok (.aload_n 2, 1) := by decide +kernel
theorem dL_law_16 : decode cL_law 16 = .ok (.iload_n 3, 1) := by decide +kernel
theorem dL_law_17 : decode cL_law 17 = .ok (.aload_n 1, 1) := by decide +kernel
theorem dL_law_18 : decode cL_law 18 = .ok (.invokestatic 185, 3) := by decide +kernel
theorem dL_law_21 : decode cL_law 21 = .ok (.lastore, 1) := by decide +kernel
theorem dL_law_22 : decode cL_law 22 = .ok (.iconst 0, 1) := by decide +kernel
theorem dL_law_23 : decode cL_law 23 = .ok (.istore 4, 2) := by decide +kernel
theorem dL_law_25 : decode cL_law 25 = .ok (.iconst 0, 1) := by decide +kernel
theorem dL_law_26 : decode cL_law 26 = .ok (.istore 5, 2) := by decide +kernel
theorem dL_law_28 : decode cL_law 28 = .ok (.iload 5, 2) := by decide +kernel
theorem dL_law_30 : decode cL_law 30 = .ok (.bipush 60, 2) := by decide +kernel
theorem dL_law_32 : decode cL_law 32 = .ok (.if_icmp .ge 456, 3) := by decide +kernel
theorem dL_law_35 : decode cL_law 35 = .ok (.aload_n 1, 1) := by decide +kernel
theorem dL_law_36 : decode cL_law 36 = .ok (.invokestatic 185, 3) := by decide +kernel
theorem dL_law_39 : decode cL_law 39 = .ok (.lstore 6, 2) := by decide +kernel
theorem dL_law_41 : decode cL_law 41 = .ok (.iload 5, 2) := by decide +kernel
theorem dL_law_43 : decode cL_law 43 = .ok (.iconst 2, 1) := by decide +kernel
theorem dL_law_44 : decode cL_law 44 = .ok (.if_icmp .ge 7, 3) := by decide +kernel
theorem dL_law_47 : decode cL_law 47 = .ok (.iconst 0, 1) := by decide +kernel
theorem dL_law_48 : decode cL_law 48 = .ok (.goto 33, 3) := by decide +kernel
theorem dL_law_51 : decode cL_law 51 = .ok (.iload 5, 2) := by decide +kernel
theorem dL_law_53 : decode cL_law 53 = .ok (.iconst 4, 1) := by decide +kernel
theorem dL_law_54 : decode cL_law 54 = .ok (.if_icmp .ge 7, 3) := by decide +kernel
theorem dL_law_57 : decode cL_law 57 = .ok (.iconst 3, 1) := by decide +kernel
theorem dL_law_58 : decode cL_law 58 = .ok (.goto 23, 3) := by decide +kernel
theorem dL_law_61 : decode cL_law 61 = .ok (.iload 5, 2) := by decide +kernel
theorem dL_law_63 : decode cL_law 63 = .ok (.bipush 10, 2) := by decide +kernel
theorem dL_law_65 : decode cL_law 65 = .ok (.if_icmp .ge 8, 3) := by decide +kernel
theorem dL_law_68 : decode cL_law 68 = .ok (.bipush 8, 2) := by decide +kernel
theorem dL_law_70 : decode cL_law 70 = .ok (.goto 11, 3) := by decide +kernel
theorem dL_law_73 : decode cL_law 73 = .ok (.aload_n 0, 1) := by decide +kernel
theorem dL_law_74 : decode cL_law 74 = .ok (.iload 4, 2) := by decide +kernel
theorem dL_law_76 : decode cL_law 76 = .ok (.bipush 44, 2) := by decide +kernel
theorem dL_law_78 : decode cL_law 78 = .ok (.invokestatic 189, 3) := by decide +kernel
theorem dL_law_81 : decode cL_law 81 = .ok (.istore 8, 2) := by decide +kernel
theorem dL_law_83 : decode cL_law 83 = .ok (.aload_n 1, 1) := by decide +kernel
theorem dL_law_84 : decode cL_law 84 = .ok (.invokevirtual 193, 3) := by decide +kernel
theorem dL_law_87 : decode cL_law 87 = .ok (.istore 9, 2) := by decide +kernel
theorem dL_law_89 : decode cL_law 89 = .ok (.iload 9, 2) := by decide +kernel
theorem dL_law_91 : decode cL_law 91 = .ok (.ifCond .eq 13, 3) := by decide +kernel
theorem dL_law_94 : decode cL_law 94 = .ok (.iload 5, 2) := by decide +kernel
theorem dL_law_96 : decode cL_law 96 = .ok (.bipush 13, 2) := by decide +kernel
theorem dL_law_98 : decode cL_law 98 = .ok (.irem, 1) := by decide +kernel
theorem dL_law_99 : decode cL_law 99 = .ok (.bipush 12, 2) := by decide +kernel
theorem dL_law_101 : decode cL_law 101 = .ok (.if_icmp .ne 16, 3) := by decide +kernel
theorem dL_law_104 : decode cL_law 104 = .ok (.aload_n 0, 1) := by decide +kernel
theorem dL_law_105 : decode cL_law 105 = .ok (.iload 4, 2) := by decide +kernel
theorem dL_law_107 : decode cL_law 107 = .ok (.iconst 2, 1) := by decide +kernel
theorem dL_law_108 : decode cL_law 108 = .ok (.iadd, 1) := by decide +kernel
theorem dL_law_109 : decode cL_law 109 = .ok (.bipush 40, 2) := by decide +kernel
theorem dL_law_111 : decode cL_law 111 = .ok (.invokestatic 189, 3) := by decide +kernel
theorem dL_law_114 : decode cL_law 114 = .ok (.goto 17, 3) := by decide +kernel
theorem dL_law_117 : decode cL_law 117 = .ok (.aload_n 1, 1) := by decide +kernel
theorem dL_law_118 : decode cL_law 118 = .ok (.aload_n 0, 1) := by decide +kernel
theorem dL_law_119 : decode cL_law 119 = .ok (.iload 4, 2) := by decide +kernel
theorem dL_law_121 : decode cL_law 121 = .ok (.iconst 2, 1) := by decide +kernel
theorem dL_law_122 : decode cL_law 122 = .ok (.iadd, 1) := by decide +kernel
theorem dL_law_123 : decode cL_law 123 = .ok (.iload 9, 2) := by decide +kernel
theorem dL_law_125 : decode cL_law 125 = .ok (.invokestatic 189, 3) := by decide +kernel
theorem dL_law_128 : decode cL_law 128 = .ok (.invokestatic 196, 3) := by decide +kernel
theorem dL_law_131 : decode cL_law 131 = .ok (.istore 10, 2) := by decide +kernel
theorem dL_law_133 : decode cL_law 133 = .ok (.aload_n 0, 1) := by decide +kernel
theorem dL_law_134 : decode cL_law 134 = .ok (.iload 4, 2) := by decide +kernel
theorem dL_law_136 : decode cL_law 136 = .ok (.iconst 1, 1) := by decide +kernel
theorem dL_law_137 : decode cL_law 137 = .ok (.iadd, 1) := by decide +kernel
theorem dL_law_138 : decode cL_law 138 = .ok (.bipush 8, 2) := by decide +kernel
theorem dL_law_140 : decode cL_law 140 = .ok (.invokestatic 189, 3) := by decide +kernel
theorem dL_law_143 : decode cL_law 143 = .ok (.istore 11, 2) := by decide +kernel
theorem dL_law_145 : decode cL_law 145 = .ok (.aload_n 1, 1) := by decide +kernel
theorem dL_law_146 : decode cL_law 146 = .ok (.iload 10, 2) := by decide +kernel
theorem dL_law_148 : decode cL_law 148 = .ok (.invokestatic 198, 3) := by decide +kernel
theorem dL_law_151 : decode cL_law 151 = .ok (.istore 12, 2) := by decide +kernel
theorem dL_law_153 : decode cL_law 153 = .ok (.aload_n 1, 1) := by decide +kernel
theorem dL_law_154 : decode cL_law 154 = .ok (.iload 10, 2) := by decide +kernel
theorem dL_law_156 : decode cL_law 156 = .ok (.invokestatic 200, 3) := by decide +kernel
theorem dL_law_159 : decode cL_law 159 = .ok (.istore 13, 2) := by decide +kernel
theorem dL_law_161 : decode cL_law 161 = .ok (.aload_n 1, 1) := by decide +kernel
theorem dL_law_162 : decode cL_law 162 = .ok (.iload 10, 2) := by decide +kernel
theorem dL_law_164 : decode cL_law 164 = .ok (.invokestatic 202, 3) := by decide +kernel
theorem dL_law_167 : decode cL_law 167 = .ok (.istore 14, 2) := by decide +kernel
theorem dL_law_169 : decode cL_law 169 = .ok (.aload_n 1, 1) := by decide +kernel
theorem dL_law_170 : decode cL_law 170 = .ok (.invokevirtual 204, 3) := by decide +kernel
theorem dL_law_173 : decode cL_law 173 = .ok (.istore 15, 2) := by decide +kernel
theorem dL_law_175 : decode cL_law 175 = .ok (.aload_n 1, 1) := by decide +kernel
theorem dL_law_176 : decode cL_law 176 = .ok (.invokevirtual 207, 3) := by decide +kernel
theorem dL_law_179 : decode cL_law 179 = .ok (.istore 16, 2) := by decide +kernel
theorem dL_law_181 : decode cL_law 181 = .ok (.aload_n 1, 1) := by decide +kernel
theorem dL_law_182 : decode cL_law 182 = .ok (.invokevirtual 210, 3) := by decide +kernel
theorem dL_law_185 : decode cL_law 185 = .ok (.istore 17, 2) := by decide +kernel
theorem dL_law_187 : decode cL_law 187 = .ok (.aload_n 1, 1) := by decide +kernel
theorem dL_law_188 : decode cL_law 188 = .ok (.invokevirtual 213, 3) := by decide +kernel
theorem dL_law_191 : decode cL_law 191 = .ok (.aload_n 1, 1) := by decide +kernel
theorem dL_law_192 : decode cL_law 192 = .ok (.invokevirtual 216, 3) := by decide +kernel
theorem dL_law_195 : decode cL_law 195 = .ok (.iadd, 1) := by decide +kernel
theorem dL_law_196 : decode cL_law 196 = .ok (.istore 18, 2) := by decide +kernel
theorem dL_law_198 : decode cL_law 198 = .ok (.aload_n 0, 1) := by decide +kernel
theorem dL_law_199 : decode cL_law 199 = .ok (.iload 4, 2) := by decide +kernel
theorem dL_law_201 : decode cL_law 201 = .ok (.iload 8, 2) := by decide +kernel
theorem dL_law_203 : decode cL_law 203 = .ok (.aload_n 1, 1) := by decide +kernel
theorem dL_law_204 : decode cL_law 204 = .ok (.iload 10, 2) := by decide +kernel
theorem dL_law_206 : decode cL_law 206 = .ok (.iload 11, 2) := by decide +kernel
theorem dL_law_208 : decode cL_law 208 = .ok (.invokestatic 219, 3) := by decide +kernel
theorem dL_law_211 : decode cL_law 211 = .ok (.istore 19, 2) := by decide +kernel
theorem dL_law_213 : decode cL_law 213 = .ok (.iload 8, 2) := by decide +kernel
theorem dL_law_215 : decode cL_law 215 = .ok (.bipush 29, 2) := by decide +kernel
theorem dL_law_217 : decode cL_law 217 = .ok (.if_icmp .le 21, 3) := by decide +kernel
theorem dL_law_220 : decode cL_law 220 = .ok (.iload 8, 2) := by decide +kernel
theorem dL_law_222 : decode cL_law 222 = .ok (.bipush 38, 2) := by decide +kernel
theorem dL_law_224 : decode cL_law 224 = .ok (.if_icmp .ge 14, 3) := by decide +kernel
theorem dL_law_227 : decode cL_law 227 = .ok (.iload 19, 2) := by decide +kernel
theorem dL_law_229 : decode cL_law 229 = .ok (.bipush (-70), 2) := by decide +kernel
theorem dL_law_231 : decode cL_law 231 = .ok (.if_icmp .le 7, 3) := by decide +kernel
theorem dL_law_234 : decode cL_law 234 = .ok (.iconst 1, 1) := by decide +kernel
theorem dL_law_235 : decode cL_law 235 = .ok (.goto 4, 3) := by decide +kernel
theorem dL_law_238 : decode cL_law 238 = .ok (.iconst 0, 1) := by decide +kernel
theorem dL_law_239 : decode cL_law 239 = .ok (.istore 20, 2) := by decide +kernel
theorem dL_law_241 : decode cL_law 241 = .ok (.iload 20, 2) := by decide +kernel
theorem dL_law_243 : decode cL_law 243 = .ok (.ifCond .eq 61, 3) := by decide +kernel
theorem dL_law_246 : decode cL_law 246 = .ok (.aload_n 1, 1) := by decide +kernel
theorem dL_law_247 : decode cL_law 247 = .ok (.invokevirtual 207, 3) := by decide +kernel
theorem dL_law_250 : decode cL_law 250 = .ok (.iload 16, 2) := by decide +kernel
theorem dL_law_252 : decode cL_law 252 = .ok (.iload 11, 2) := by decide +kernel
theorem dL_law_254 : decode cL_law 254 = .ok (.iadd, 1) := by decide +kernel
theorem dL_law_255 : decode cL_law 255 = .ok (.if_icmp .ne 53, 3) := by decide +kernel
theorem dL_law_258 : decode cL_law 258 = .ok (.aload_n 1, 1) := by decide +kernel
theorem dL_law_259 : decode cL_law 259 = .ok (.invokevirtual 204, 3) := by decide +kernel
theorem dL_law_262 : decode cL_law 262 = .ok (.iload 15, 2) := by decide +kernel
theorem dL_law_264 : decode cL_law 264 = .ok (.iload 19, 2) := by decide +kernel
theorem dL_law_266 : decode cL_law 266 = .ok (.iadd, 1) := by decide +kernel
theorem dL_law_267 : decode cL_law 267 = .ok (.if_icmp .ne 41, 3) := by decide +kernel
theorem dL_law_270 : decode cL_law 270 = .ok (.aload_n 1, 1) := by decide +kernel
theorem dL_law_271 : decode cL_law 271 = .ok (.invokevirtual 193, 3) := by decide +kernel
theorem dL_law_274 : decode cL_law 274 = .ok (.iload 9, 2) := by decide +kernel
theorem dL_law_276 : decode cL_law 276 = .ok (.aload_n 1, 1) := by decide +kernel
theorem dL_law_277 : decode cL_law 277 = .ok (.invokevirtual 213, 3) := by decide +kernel
theorem dL_law_280 : decode cL_law 280 = .ok (.aload_n 1, 1) := by decide +kernel
theorem dL_law_281 : decode cL_law 281 = .ok (.invokevirtual 216, 3) := by decide +kernel
theorem dL_law_284 : decode cL_law 284 = .ok (.iadd, 1) := by decide +kernel
theorem dL_law_285 : decode cL_law 285 = .ok (.iload 18, 2) := by decide +kernel
theorem dL_law_287 : decode cL_law 287 = .ok (.isub, 1) := by decide +kernel
theorem dL_law_288 : decode cL_law 288 = .ok (.isub, 1) := by decide +kernel
theorem dL_law_289 : decode cL_law 289 = .ok (.if_icmp .ne 19, 3) := by decide +kernel
theorem dL_law_292 : decode cL_law 292 = .ok (.aload_n 1, 1) := by decide +kernel
theorem dL_law_293 : decode cL_law 293 = .ok (.invokevirtual 210, 3) := by decide +kernel
theorem dL_law_296 : decode cL_law 296 = .ok (.iload 17, 2) := by decide +kernel
theorem dL_law_298 : decode cL_law 298 = .ok (.iload 19, 2) := by decide +kernel
theorem dL_law_300 : decode cL_law 300 = .ok (.iadd, 1) := by decide +kernel
theorem dL_law_301 : decode cL_law 301 = .ok (.if_icmp .lt 7, 3) := by decide +kernel
theorem dL_law_304 : decode cL_law 304 = .ok (.iconst 1, 1) := by decide +kernel
theorem dL_law_305 : decode cL_law 305 = .ok (.goto 4, 3) := by decide +kernel
theorem dL_law_308 : decode cL_law 308 = .ok (.iconst 0, 1) := by decide +kernel
theorem dL_law_309 : decode cL_law 309 = .ok (.istore 21, 2) := by decide +kernel
theorem dL_law_311 : decode cL_law 311 = .ok (.iload 21, 2) := by decide +kernel
theorem dL_law_313 : decode cL_law 313 = .ok (.iload 20, 2) := by decide +kernel
theorem dL_law_315 : decode cL_law 315 = .ok (.ifCond .eq 54, 3) := by decide +kernel
theorem dL_law_318 : decode cL_law 318 = .ok (.iload 12, 2) := by decide +kernel
theorem dL_law_320 : decode cL_law 320 = .ok (.ifCond .lt 49, 3) := by decide +kernel
theorem dL_law_323 : decode cL_law 323 = .ok (.iload 12, 2) := by decide +kernel
theorem dL_law_325 : decode cL_law 325 = .ok (.iload 11, 2) := by decide +kernel
theorem dL_law_327 : decode cL_law 327 = .ok (.if_icmp .gt 17, 3) := by decide +kernel
theorem dL_law_330 : decode cL_law 330 = .ok (.aload_n 1, 1) := by decide +kernel
theorem dL_law_331 : decode cL_law 331 = .ok (.iload 10, 2) := by decide +kernel
theorem dL_law_333 : decode cL_law 333 = .ok (.invokestatic 200, 3) := by decide +kernel
theorem dL_law_336 : decode cL_law 336 = .ok (.bipush 100, 2) := by decide +kernel
theorem dL_law_338 : decode cL_law 338 = .ok (.if_icmp .ne 35, 3) := by decide +kernel
theorem dL_law_341 : decode cL_law 341 = .ok (.goto 28, 3) := by decide +kernel
theorem dL_law_344 : decode cL_law 344 = .ok (.aload_n 1, 1) := by decide +kernel
theorem dL_law_345 : decode cL_law 345 = .ok (.iload 10, 2) := by decide +kernel
theorem dL_law_347 : decode cL_law 347 = .ok (.invokestatic 200, 3) := by decide +kernel
theorem dL_law_350 : decode cL_law 350 = .ok (.bipush 100, 2) := by decide +kernel
theorem dL_law_352 : decode cL_law 352 = .ok (.if_icmp .eq 21, 3) := by decide +kernel
theorem dL_law_355 : decode cL_law 355 = .ok (.aload_n 1, 1) := by decide +kernel
theorem dL_law_356 : decode cL_law 356 = .ok (.iload 10, 2) := by decide +kernel
theorem dL_law_358 : decode cL_law 358 = .ok (.invokestatic 198, 3) := by decide +kernel
theorem dL_law_361 : decode cL_law 361 = .ok (.iload 12, 2) := by decide +kernel
theorem dL_law_363 : decode cL_law 363 = .ok (.iload 11, 2) := by decide +kernel
theorem dL_law_365 : decode cL_law 365 = .ok (.isub, 1) := by decide +kernel
theorem dL_law_366 : decode cL_law 366 = .ok (.if_icmp .ne 7, 3) := by decide +kernel
theorem dL_law_369 : decode cL_law 369 = .ok (.iconst 1, 1) := by decide +kernel
theorem dL_law_370 : decode cL_law 370 = .ok (.goto 4, 3) := by decide +kernel
theorem dL_law_373 : decode cL_law 373 = .ok (.iconst 0, 1) := by decide +kernel
theorem dL_law_374 : decode cL_law 374 = .ok (.iand, 1) := by decide +kernel
theorem dL_law_375 : decode cL_law 375 = .ok (.istore 21, 2) := by decide +kernel
theorem dL_law_377 : decode cL_law 377 = .ok (.iload 21, 2) := by decide +kernel
theorem dL_law_379 : decode cL_law 379 = .ok (.iload 20, 2) := by decide +kernel
theorem dL_law_381 : decode cL_law 381 = .ok (.ifCond .eq 31, 3) := by decide +kernel
theorem dL_law_384 : decode cL_law 384 = .ok (.iload 13, 2) := by decide +kernel
theorem dL_law_386 : decode cL_law 386 = .ok (.bipush 110, 2) := by decide +kernel
theorem dL_law_388 : decode cL_law 388 = .ok (.if_icmp .ne 24, 3) := by decide +kernel
theorem dL_law_391 : decode cL_law 391 = .ok (.iload 11, 2) := by decide +kernel
theorem dL_law_393 : decode cL_law 393 = .ok (.iload 14, 2) := by decide +kernel
theorem dL_law_395 : decode cL_law 395 = .ok (.if_icmp .ge 17, 3) := by decide +kernel
theorem dL_law_398 : decode cL_law 398 = .ok (.aload_n 1, 1) := by decide +kernel
theorem dL_law_399 : decode cL_law 399 = .ok (.iload 10, 2) := by decide +kernel
theorem dL_law_401 : decode cL_law 401 = .ok (.invokestatic 202, 3) := by decide +kernel
theorem dL_law_404 : decode cL_law 404 = .ok (.iload 14, 2) := by decide +kernel
theorem dL_law_406 : decode cL_law 406 = .ok (.iload 11, 2) := by decide +kernel
theorem dL_law_408 : decode cL_law 408 = .ok (.isub, 1) := by decide +kernel
theorem dL_law_409 : decode cL_law 409 = .ok (.if_icmp .ne 7, 3) := by decide +kernel
theorem dL_law_412 : decode cL_law 412 = .ok (.iconst 1, 1) := by decide +kernel
theorem dL_law_413 : decode cL_law 413 = .ok (.goto 4, 3) := by decide +kernel
theorem dL_law_416 : decode cL_law 416 = .ok (.iconst 0, 1) := by decide +kernel
theorem dL_law_417 : decode cL_law 417 = .ok (.iand, 1) := by decide +kernel
theorem dL_law_418 : decode cL_law 418 = .ok (.istore 21, 2) := by decide +kernel
theorem dL_law_420 : decode cL_law 420 = .ok (.iinc 4 5, 3) := by decide +kernel
theorem dL_law_423 : decode cL_law 423 = .ok (.iload 21, 2) := by decide +kernel
theorem dL_law_425 : decode cL_law 425 = .ok (.ifCond .eq 26, 3) := by decide +kernel
theorem dL_law_428 : decode cL_law 428 = .ok (.aload_n 1, 1) := by decide +kernel
theorem dL_law_429 : decode cL_law 429 = .ok (.aload_n 0, 1) := by decide +kernel
theorem dL_law_430 : decode cL_law 430 = .ok (.iload 4, 2) := by decide +kernel
theorem dL_law_432 : decode cL_law 432 = .ok (.iload 5, 2) := by decide +kernel
theorem dL_law_434 : decode cL_law 434 = .ok (.iconst 4, 1) := by decide +kernel
theorem dL_law_435 : decode cL_law 435 = .ok (.irem, 1) := by decide +kernel
theorem dL_law_436 : decode cL_law 436 = .ok (.iconst 3, 1) := by decide +kernel
theorem dL_law_437 : decode cL_law 437 = .ok (.if_icmp .ne 7, 3) := by decide +kernel
theorem dL_law_440 : decode cL_law 440 = .ok (.iconst 1, 1) := by decide +kernel
theorem dL_law_441 : decode cL_law 441 = .ok (.goto 4, 3) := by decide +kernel
theorem dL_law_444 : decode cL_law 444 = .ok (.iconst 0, 1) := by decide +kernel
theorem dL_law_445 : decode cL_law 445 = .ok (.invokestatic 223, 3) := by decide +kernel
theorem dL_law_448 : decode cL_law 448 = .ok (.ifCond .ne 5, 3) := by decide +kernel
theorem dL_law_451 : decode cL_law 451 = .ok (.iconst 0, 1) := by decide +kernel
theorem dL_law_452 : decode cL_law 452 = .ok (.ireturn, 1) := by decide +kernel
theorem dL_law_453 : decode cL_law 453 = .ok (.iload 19, 2) := by decide +kernel
theorem dL_law_455 : decode cL_law 455 = .ok (.bipush (-74), 2) := by decide +kernel
theorem dL_law_457 : decode cL_law 457 = .ok (.if_icmp .gt 15, 3) := by decide +kernel
theorem dL_law_460 : decode cL_law 460 = .ok (.aload_n 1, 1) := by decide +kernel
theorem dL_law_461 : decode cL_law 461 = .ok (.invokestatic 185, 3) := by decide +kernel
theorem dL_law_464 : decode cL_law 464 = .ok (.lload 6, 2) := by decide +kernel
theorem dL_law_466 : decode cL_law 466 = .ok (.lcmp, 1) := by decide +kernel
theorem dL_law_467 : decode cL_law 467 = .ok (.ifCond .eq 15, 3) := by decide +kernel
theorem dL_law_470 : decode cL_law 470 = .ok (.iconst 0, 1) := by decide +kernel
theorem dL_law_471 : decode cL_law 471 = .ok (.ireturn, 1) := by decide +kernel
theorem dL_law_472 : decode cL_law 472 = .ok (.iinc 3 1, 3) := by decide +kernel
theorem dL_law_475 : decode cL_law 475 = .ok (.aload_n 2, 1) := by decide +kernel
theorem dL_law_476 : decode cL_law 476 = .ok (.iload_n 3, 1) := by decide +kernel
theorem dL_law_477 : decode cL_law 477 = .ok (.aload_n 1, 1) := by decide +kernel
theorem dL_law_478 : decode cL_law 478 = .ok (.invokestatic 185, 3) := by decide +kernel
theorem dL_law_481 : decode cL_law 481 = .ok (.lastore, 1) := by decide +kernel
theorem dL_law_482 : decode cL_law 482 = .ok (.iinc 5 1, 3) := by decide +kernel
theorem dL_law_485 : decode cL_law 485 = .ok (.goto (-457), 3) := by decide +kernel
theorem dL_law_488 : decode cL_law 488 = .ok (.aload_n 1, 1) := by decide +kernel
theorem dL_law_489 : decode cL_law 489 = .ok (.aload_n 2, 1) := by decide +kernel
theorem dL_law_490 : decode cL_law 490 = .ok (.iload_n 3, 1) := by decide +kernel
theorem dL_law_491 : decode cL_law 491 = .ok (.invokestatic 227, 3) := by decide +kernel
theorem dL_law_494 : decode cL_law 494 = .ok (.ireturn, 1) := by decide +kernel
theorem dL_does_0 : decode cL_does 0 = .ok (.aload_n 0, 1) := by decide +kernel
theorem dL_does_1 : decode cL_does 1 = .ok (.iload_n 1, 1) := by decide +kernel
theorem dL_does_2 : decode cL_does 2 = .ok (.iconst 3, 1) := by decide +kernel
theorem dL_does_3 : decode cL_does 3 = .ok (.iadd, 1) := by decide +kernel
theorem dL_does_4 : decode cL_does 4 = .ok (.sipush 1000, 3) := by decide +kernel
theorem dL_does_7 : decode cL_does 7 = .ok (.invokestatic 189, 3) := by decide +kernel
theorem dL_does_10 : decode cL_does 10 = .ok (.istore 6, 2) := by decide +kernel
theorem dL_does_12 : decode cL_does 12 = .ok (.aload_n 0, 1) := by decide +kernel
theorem dL_does_13 : decode cL_does 13 = .ok (.iload_n 1, 1) := by decide +kernel
theorem dL_does_14 : decode cL_does 14 = .ok (.iconst 4, 1) := by decide +kernel
theorem dL_does_15 : decode cL_does 15 = .ok (.iadd, 1) := by decide +kernel
theorem dL_does_16 : decode cL_does 16 = .ok (.sipush 1000, 3) := by decide +kernel
theorem dL_does_19 : decode cL_does 19 = .ok (.invokestatic 189, 3) := by decide +kernel
theorem dL_does_22 : decode cL_does 22 = .ok (.istore 7, 2) := by decide +kernel
theorem dL_does_24 : decode cL_does 24 = .ok (.iload 7, 2) := by decide +kernel
theorem dL_does_26 : decode cL_does 26 = .ok (.aload_n 3, 1) := by decide +kernel
theorem dL_does_27 : decode cL_does 27 = .ok (.invokevirtual 231, 3) := by decide +kernel
theorem dL_does_30 : decode cL_does 30 = .ok (.iload 6, 2) := by decide +kernel
theorem dL_does_32 : decode cL_does 32 = .ok (.bipush 19, 2) := by decide +kernel
theorem dL_does_34 : decode cL_does 34 = .ok (.irem, 1) := by decide +kernel
theorem dL_does_35 : decode cL_does 35 = .ok (.ifCond .eq 10, 3) := by decide +kernel
theorem dL_does_38 : decode cL_does 38 = .ok (.aload_n 3, 1) := by decide +kernel
theorem dL_does_39 : decode cL_does 39 = .ok (.invokevirtual 231, 3) := by decide +kernel
theorem dL_does_42 : decode cL_does 42 = .ok (.ifCond .ne 7, 3) := by decide +kernel
theorem dL_does_45 : decode cL_does 45 = .ok (.iconst 1, 1) := by decide +kernel
theorem dL_does_46 : decode cL_does 46 = .ok (.goto 4, 3) := by decide +kernel
theorem dL_does_49 : decode cL_does 49 = .ok (.iconst 0, 1) := by decide +kernel
theorem dL_does_50 : decode cL_does 50 = .ok (.iadd, 1) := by decide +kernel
theorem dL_does_51 : decode cL_does 51 = .ok (.irem, 1) := by decide +kernel
theorem dL_does_52 : decode cL_does 52 = .ok (.istore 8, 2) := by decide +kernel
theorem dL_does_54 : decode cL_does 54 = .ok (.iload_n 2, 1) := by decide +kernel
theorem dL_does_55 : decode cL_does 55 = .ok (.tableswitch 269 0 37 #[165, 165, 199, 199, 204, 204, 214, 214, 214, 214, 214, 214, 214, 214, 214, 214, 214, 214, 214, 214, 241, 241, 241, 241, 241, 248, 248, 255, 255, 255, 262, 262, 262, 262, 262, 262, 262, 262], 165) := by decide +kernel
theorem dL_does_220 : decode cL_does 220 = .ok (.aload_n 3, 1) := by decide +kernel
theorem dL_does_221 : decode cL_does 221 = .ok (.iload 6, 2) := by decide +kernel
theorem dL_does_223 : decode cL_does 223 = .ok (.iconst 3, 1) := by decide +kernel
theorem dL_does_224 : decode cL_does 224 = .ok (.irem, 1) := by decide +kernel
theorem dL_does_225 : decode cL_does 225 = .ok (.ifCond .ne 11, 3) := by decide +kernel
theorem dL_does_228 : decode cL_does 228 = .ok (.iload 7, 2) := by decide +kernel
theorem dL_does_230 : decode cL_does 230 = .ok (.bipush 11, 2) := by decide +kernel
theorem dL_does_232 : decode cL_does 232 = .ok (.irem, 1) := by decide +kernel
theorem dL_does_233 : decode cL_does 233 = .ok (.goto 9, 3) := by decide +kernel
theorem dL_does_236 : decode cL_does 236 = .ok (.iconst 1, 1) := by decide +kernel
theorem dL_does_237 : decode cL_does 237 = .ok (.iload 7, 2) := by decide +kernel
theorem dL_does_239 : decode cL_does 239 = .ok (.iconst 3, 1) := by decide +kernel
theorem dL_does_240 : decode cL_does 240 = .ok (.irem, 1) := by decide +kernel
theorem dL_does_241 : decode cL_does 241 = .ok (.iadd, 1) := by decide +kernel
theorem dL_does_242 : decode cL_does 242 = .ok (.iload 7, 2) := by decide +kernel
theorem dL_does_244 : decode cL_does 244 = .ok (.bipush 11, 2) := by decide +kernel
theorem dL_does_246 : decode cL_does 246 = .ok (.idiv, 1) := by decide +kernel
theorem dL_does_247 : decode cL_does 247 = .ok (.bipush 6, 2) := by decide +kernel
theorem dL_does_249 : decode cL_does 249 = .ok (.irem, 1) := by decide +kernel
theorem dL_does_250 : decode cL_does 250 = .ok (.invokestatic 234, 3) := by decide +kernel
theorem dL_does_253 : decode cL_does 253 = .ok (.ireturn, 1) := by decide +kernel
theorem dL_does_254 : decode cL_does 254 = .ok (.aload_n 3, 1) := by decide +kernel
theorem dL_does_255 : decode cL_does 255 = .ok (.invokestatic 237, 3) := by decide +kernel
theorem dL_does_258 : decode cL_does 258 = .ok (.ireturn, 1) := by decide +kernel
theorem dL_does_259 : decode cL_does 259 = .ok (.aload_n 3, 1) := by decide +kernel
theorem dL_does_260 : decode cL_does 260 = .ok (.iload 7, 2) := by decide +kernel
theorem dL_does_262 : decode cL_does 262 = .ok (.bipush 11, 2) := by decide +kernel
theorem dL_does_264 : decode cL_does 264 = .ok (.irem, 1) := by decide +kernel
theorem dL_does_265 : decode cL_does 265 = .ok (.invokestatic 239, 3) := by decide +kernel
theorem dL_does_268 : decode cL_does 268 = .ok (.ireturn, 1) := by decide +kernel
theorem dL_does_269 : decode cL_does 269 = .ok (.aload_n 3, 1) := by decide +kernel
theorem dL_does_270 : decode cL_does 270 = .ok (.iload 8, 2) := by decide +kernel
theorem dL_does_272 : decode cL_does 272 = .ok (.iload 6, 2) := by decide +kernel
theorem dL_does_274 : decode cL_does 274 = .ok (.iconst 3, 1) := by decide +kernel
theorem dL_does_275 : decode cL_does 275 = .ok (.irem, 1) := by decide +kernel
theorem dL_does_276 : decode cL_does 276 = .ok (.ifCond .ne 11, 3) := by decide +kernel
theorem dL_does_279 : decode cL_does 279 = .ok (.iload 6, 2) := by decide +kernel
theorem dL_does_281 : decode cL_does 281 = .ok (.bipush 101, 2) := by decide +kernel
theorem dL_does_283 : decode cL_does 283 = .ok (.irem, 1) := by decide +kernel
theorem dL_does_284 : decode cL_does 284 = .ok (.goto 8, 3) := by decide +kernel
theorem dL_does_287 : decode cL_does 287 = .ok (.iload 6, 2) := by decide +kernel
theorem dL_does_289 : decode cL_does 289 = .ok (.bipush 12, 2) := by decide +kernel
theorem dL_does_291 : decode cL_does 291 = .ok (.irem, 1) := by decide +kernel
theorem dL_does_292 : decode cL_does 292 = .ok (.invokestatic 241, 3) := by decide +kernel
theorem dL_does_295 : decode cL_does 295 = .ok (.ireturn, 1) := by decide +kernel
theorem dL_does_296 : decode cL_does 296 = .ok (.aload_n 3, 1) := by decide +kernel
theorem dL_does_297 : decode cL_does 297 = .ok (.iload 8, 2) := by decide +kernel
theorem dL_does_299 : decode cL_does 299 = .ok (.invokestatic 243, 3) := by decide +kernel
theorem dL_does_302 : decode cL_does 302 = .ok (.ireturn, 1) := by decide +kernel
theorem dL_does_303 : decode cL_does 303 = .ok (.aload_n 3, 1) := by decide +kernel
theorem dL_does_304 : decode cL_does 304 = .ok (.iload 8, 2) := by decide +kernel
theorem dL_does_306 : decode cL_does 306 = .ok (.invokestatic 245, 3) := by decide +kernel
theorem dL_does_309 : decode cL_does 309 = .ok (.ireturn, 1) := by decide +kernel
theorem dL_does_310 : decode cL_does 310 = .ok (.aload_n 3, 1) := by decide +kernel
theorem dL_does_311 : decode cL_does 311 = .ok (.iload 4, 2) := by decide +kernel
theorem dL_does_313 : decode cL_does 313 = .ok (.invokestatic 247, 3) := by decide +kernel
theorem dL_does_316 : decode cL_does 316 = .ok (.ireturn, 1) := by decide +kernel
theorem dL_does_317 : decode cL_does 317 = .ok (.aload_n 3, 1) := by decide +kernel
theorem dL_does_318 : decode cL_does 318 = .ok (.iload 5, 2) := by decide +kernel
theorem dL_does_320 : decode cL_does 320 = .ok (.invokestatic 249, 3) := by decide +kernel
theorem dL_does_323 : decode cL_does 323 = .ok (.ireturn, 1) := by decide +kernel
theorem dL_does_324 : decode cL_does 324 = .ok (.aload_n 3, 1) := by decide +kernel
theorem dL_does_325 : decode cL_does 325 = .ok (.new 251, 3) := by decide +kernel
theorem dL_does_328 : decode cL_does 328 = .ok (.dup, 1) := by decide +kernel
theorem dL_does_329 : decode cL_does 329 = .ok (.invokespecial 253, 3) := by decide +kernel
theorem dL_does_332 : decode cL_does 332 = .ok (.ldc 254, 2) := by decide +kernel
theorem dL_does_334 : decode cL_does 334 = .ok (.invokevirtual 256, 3) := by decide +kernel
theorem dL_does_337 : decode cL_does 337 = .ok (.iconst 1, 1) := by decide +kernel
theorem dL_does_338 : decode cL_does 338 = .ok (.iload 6, 2) := by decide +kernel
theorem dL_does_340 : decode cL_does 340 = .ok (.bipush 9, 2) := by decide +kernel
theorem dL_does_342 : decode cL_does 342 = .ok (.irem, 1) := by decide +kernel
theorem dL_does_343 : decode cL_does 343 = .ok (.iadd, 1) := by decide +kernel
theorem dL_does_344 : decode cL_does 344 = .ok (.invokevirtual 260, 3) := by decide +kernel
theorem dL_does_347 : decode cL_does 347 = .ok (.iload 6, 2) := by decide +kernel
