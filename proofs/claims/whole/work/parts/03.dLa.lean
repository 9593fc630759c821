theorem dL_setOwner_0 : decode cL_setOwner 0 = .ok (.aload 4, 2) := by decide +kernel
theorem dL_setOwner_2 : decode cL_setOwner 2 = .ok (.iconst 0, 1) := by decide +kernel
theorem dL_setOwner_3 : decode cL_setOwner 3 = .ok (.aload_n 0, 1) := by decide +kernel
theorem dL_setOwner_4 : decode cL_setOwner 4 = .ok (.iload_n 1, 1) := by decide +kernel
theorem dL_setOwner_5 : decode cL_setOwner 5 = .ok (.iload_n 2, 1) := by decide +kernel
theorem dL_setOwner_6 : decode cL_setOwner 6 = .ok (.iload_n 3, 1) := by decide +kernel
theorem dL_setOwner_7 : decode cL_setOwner 7 = .ok (.invokevirtual 7, 3) := by decide +kernel
theorem dL_setOwner_10 : decode cL_setOwner 10 = .ok (.i2l, 1) := by decide +kernel
theorem dL_setOwner_11 : decode cL_setOwner 11 = .ok (.lastore, 1) := by decide +kernel
theorem dL_setOwner_12 : decode cL_setOwner 12 = .ok (.goto 11, 3) := by decide +kernel
theorem dL_setOwner_15 : decode cL_setOwner 15 = .ok (.astore 5, 2) := by decide +kernel
theorem dL_setOwner_17 : decode cL_setOwner 17 = .ok (.iconst 1, 1) := by decide +kernel
theorem dL_setOwner_18 : decode cL_setOwner 18 = .ok (.ireturn, 1) := by decide +kernel
theorem dL_setOwner_19 : decode cL_setOwner 19 = .ok (.astore 5, 2) := by decide +kernel
theorem dL_setOwner_21 : decode cL_setOwner 21 = .ok (.iconst 2, 1) := by decide +kernel
theorem dL_setOwner_22 : decode cL_setOwner 22 = .ok (.ireturn, 1) := by decide +kernel
theorem dL_setOwner_23 : decode cL_setOwner 23 = .ok (.iconst 0, 1) := by decide +kernel
theorem dL_setOwner_24 : decode cL_setOwner 24 = .ok (.ireturn, 1) := by decide +kernel
theorem dL_setAway_0 : decode cL_setAway 0 = .ok (.aload_n 3, 1) := by decide +kernel
theorem dL_setAway_1 : decode cL_setAway 1 = .ok (.iconst 0, 1) := by decide +kernel
theorem dL_setAway_2 : decode cL_setAway 2 = .ok (.aload_n 0, 1) := by decide +kernel
theorem dL_setAway_3 : decode cL_setAway 3 = .ok (.iload_n 1, 1) := by decide +kernel
theorem dL_setAway_4 : decode cL_setAway 4 = .ok (.iload_n 2, 1) := by decide +kernel
theorem dL_setAway_5 : decode cL_setAway 5 = .ok (.invokevirtual 17, 3) := by decide +kernel
theorem dL_setAway_8 : decode cL_setAway 8 = .ok (.ifCond .eq 7, 3) := by decide +kernel
theorem dL_setAway_11 : decode cL_setAway 11 = .ok (.lconst 1, 1) := by decide +kernel
theorem dL_setAway_12 : decode cL_setAway 12 = .ok (.goto 4, 3) := by decide +kernel
theorem dL_setAway_15 : decode cL_setAway 15 = .ok (.lconst 0, 1) := by decide +kernel
theorem dL_setAway_16 : decode cL_setAway 16 = .ok (.lastore, 1) := by decide +kernel
theorem dL_setAway_17 : decode cL_setAway 17 = .ok (.goto 7, 3) := by decide +kernel
theorem dL_setAway_20 : decode cL_setAway 20 = .ok (.astore 4, 2) := by decide +kernel
theorem dL_setAway_22 : decode cL_setAway 22 = .ok (.iconst 1, 1) := by decide +kernel
theorem dL_setAway_23 : decode cL_setAway 23 = .ok (.ireturn, 1) := by decide +kernel
theorem dL_setAway_24 : decode cL_setAway 24 = .ok (.iconst 0, 1) := by decide +kernel
theorem dL_setAway_25 : decode cL_setAway 25 = .ok (.ireturn, 1) := by decide +kernel
theorem dL_open_0 : decode cL_open 0 = .ok (.aload_n 2, 1) := by decide +kernel
theorem dL_open_1 : decode cL_open 1 = .ok (.iconst 0, 1) := by decide +kernel
theorem dL_open_2 : decode cL_open 2 = .ok (.aload_n 0, 1) := by decide +kernel
theorem dL_open_3 : decode cL_open 3 = .ok (.iload_n 1, 1) := by decide +kernel
theorem dL_open_4 : decode cL_open 4 = .ok (.invokevirtual 21, 3) := by decide +kernel
theorem dL_open_7 : decode cL_open 7 = .ok (.i2l, 1) := by decide +kernel
theorem dL_open_8 : decode cL_open 8 = .ok (.lastore, 1) := by decide +kernel
theorem dL_open_9 : decode cL_open 9 = .ok (.goto 9, 3) := by decide +kernel
theorem dL_open_12 : decode cL_open 12 = .ok (.astore_n 3, 1) := by decide +kernel
theorem dL_open_13 : decode cL_open 13 = .ok (.iconst 1, 1) := by decide +kernel
theorem dL_open_14 : decode cL_open 14 = .ok (.ireturn, 1) := by decide +kernel
theorem dL_open_15 : decode cL_open 15 = .ok (.astore_n 3, 1) := by decide +kernel
theorem dL_open_16 : decode cL_open 16 = .ok (.iconst 2, 1) := by decide +kernel
theorem dL_open_17 : decode cL_open 17 = .ok (.ireturn, 1) := by decide +kernel
theorem dL_open_18 : decode cL_open 18 = .ok (.iconst 0, 1) := by decide +kernel
theorem dL_open_19 : decode cL_open 19 = .ok (.ireturn, 1) := by decide +kernel
theorem dL_edit_0 : decode cL_edit 0 = .ok (.aload 5, 2) := by decide +kernel
theorem dL_edit_2 : decode cL_edit 2 = .ok (.iconst 0, 1) := by decide +kernel
theorem dL_edit_3 : decode cL_edit 3 = .ok (.aload_n 0, 1) := by decide +kernel
theorem dL_edit_4 : decode cL_edit 4 = .ok (.iload_n 1, 1) := by decide +kernel
theorem dL_edit_5 : decode cL_edit 5 = .ok (.iload_n 2, 1) := by decide +kernel
theorem dL_edit_6 : decode cL_edit 6 = .ok (.iload_n 3, 1) := by decide +kernel
theorem dL_edit_7 : decode cL_edit 7 = .ok (.iload 4, 2) := by decide +kernel
theorem dL_edit_9 : decode cL_edit 9 = .ok (.invokevirtual 27, 3) := by decide +kernel
theorem dL_edit_12 : decode cL_edit 12 = .ok (.i2l, 1) := by decide +kernel
theorem dL_edit_13 : decode cL_edit 13 = .ok (.lastore, 1) := by decide +kernel
theorem dL_edit_14 : decode cL_edit 14 = .ok (.goto 19, 3) := by decide +kernel
theorem dL_edit_17 : decode cL_edit 17 = .ok (.astore 6, 2) := by decide +kernel
theorem dL_edit_19 : decode cL_edit 19 = .ok (.iconst 1, 1) := by decide +kernel
theorem dL_edit_20 : decode cL_edit 20 = .ok (.ireturn, 1) := by decide +kernel
theorem dL_edit_21 : decode cL_edit 21 = .ok (.astore 6, 2) := by decide +kernel
theorem dL_edit_23 : decode cL_edit 23 = .ok (.iconst 2, 1) := by decide +kernel
theorem dL_edit_24 : decode cL_edit 24 = .ok (.ireturn, 1) := by decide +kernel
theorem dL_edit_25 : decode cL_edit 25 = .ok (.astore 6, 2) := by decide +kernel
theorem dL_edit_27 : decode cL_edit 27 = .ok (.iconst 3, 1) := by decide +kernel
theorem dL_edit_28 : decode cL_edit 28 = .ok (.ireturn, 1) := by decide +kernel
theorem dL_edit_29 : decode cL_edit 29 = .ok (.astore 6, 2) := by decide +kernel
theorem dL_edit_31 : decode cL_edit 31 = .ok (.iconst 4, 1) := by decide +kernel
theorem dL_edit_32 : decode cL_edit 32 = .ok (.ireturn, 1) := by decide +kernel
theorem dL_edit_33 : decode cL_edit 33 = .ok (.iconst 0, 1) := by decide +kernel
theorem dL_edit_34 : decode cL_edit 34 = .ok (.ireturn, 1) := by decide +kernel
theorem dL_take_0 : decode cL_take 0 = .ok (.aload 4, 2) := by decide +kernel
theorem dL_take_2 : decode cL_take 2 = .ok (.iconst 0, 1) := by decide +kernel
theorem dL_take_3 : decode cL_take 3 = .ok (.aload_n 0, 1) := by decide +kernel
theorem dL_take_4 : decode cL_take 4 = .ok (.iload_n 1, 1) := by decide +kernel
theorem dL_take_5 : decode cL_take 5 = .ok (.iload_n 2, 1) := by decide +kernel
theorem dL_take_6 : decode cL_take 6 = .ok (.iload_n 3, 1) := by decide +kernel
theorem dL_take_7 : decode cL_take 7 = .ok (.invokevirtual 33, 3) := by decide +kernel
theorem dL_take_10 : decode cL_take 10 = .ok (.i2l, 1) := by decide +kernel
theorem dL_take_11 : decode cL_take 11 = .ok (.lastore, 1) := by decide +kernel
theorem dL_take_12 : decode cL_take 12 = .ok (.goto 15, 3) := by decide +kernel
theorem dL_take_15 : decode cL_take 15 = .ok (.astore 5, 2) := by decide +kernel
theorem dL_take_17 : decode cL_take 17 = .ok (.iconst 1, 1) := by decide +kernel
theorem dL_take_18 : decode cL_take 18 = .ok (.ireturn, 1) := by decide +kernel
theorem dL_take_19 : decode cL_take 19 = .ok (.astore 5, 2) := by decide +kernel
theorem dL_take_21 : decode cL_take 21 = .ok (.iconst 2, 1) := by decide +kernel
theorem dL_take_22 : decode cL_take 22 = .ok (.ireturn, 1) := by decide +kernel
theorem dL_take_23 : decode cL_take 23 = .ok (.astore 5, 2) := by decide +kernel
theorem dL_take_25 : decode cL_take 25 = .ok (.iconst 3, 1) := by decide +kernel
theorem dL_take_26 : decode cL_take 26 = .ok (.ireturn, 1) := by decide +kernel
theorem dL_take_27 : decode cL_take 27 = .ok (.iconst 0, 1) := by decide +kernel
theorem dL_take_28 : decode cL_take 28 = .ok (.ireturn, 1) := by decide +kernel
theorem dL_close_0 : decode cL_close 0 = .ok (.aload_n 2, 1) := by decide +kernel
theorem dL_close_1 : decode cL_close 1 = .ok (.iconst 0, 1) := by decide +kernel
theorem dL_close_2 : decode cL_close 2 = .ok (.aload_n 0, 1) := by decide +kernel
theorem dL_close_3 : decode cL_close 3 = .ok (.iload_n 1, 1) := by decide +kernel
theorem dL_close_4 : decode cL_close 4 = .ok (.invokevirtual 36, 3) := by decide +kernel
theorem dL_close_7 : decode cL_close 7 = .ok (.i2l, 1) := by decide +kernel
theorem dL_close_8 : decode cL_close 8 = .ok (.lastore, 1) := by decide +kernel
theorem dL_close_9 : decode cL_close 9 = .ok (.goto 9, 3) := by decide +kernel
theorem dL_close_12 : decode cL_close 12 = .ok (.astore_n 3, 1) := by decide +kernel
theorem dL_close_13 : decode cL_close 13 = .ok (.iconst 1, 1) := by decide +kernel
theorem dL_close_14 : decode cL_close 14 = .ok (.ireturn, 1) := by decide +kernel
theorem dL_close_15 : decode cL_close 15 = .ok (.astore_n 3, 1) := by decide +kernel
theorem dL_close_16 : decode cL_close 16 = .ok (.iconst 2, 1) := by decide +kernel
theorem dL_close_17 : decode cL_close 17 = .ok (.ireturn, 1) := by decide +kernel
theorem dL_close_18 : decode cL_close 18 = .ok (.iconst 0, 1) := by decide +kernel
theorem dL_close_19 : decode cL_close 19 = .ok (.ireturn, 1) := by decide +kernel
theorem dL_vote_0 : decode cL_vote 0 = .ok (.aload 4, 2) := by decide +kernel
theorem dL_vote_2 : decode cL_vote 2 = .ok (.iconst 0, 1) := by decide +kernel
theorem dL_vote_3 : decode cL_vote 3 = .ok (.aload_n 0, 1) := by decide +kernel
theorem dL_vote_4 : decode cL_vote 4 = .ok (.iload_n 1, 1) := by decide +kernel
theorem dL_vote_5 : decode cL_vote 5 = .ok (.iload_n 2, 1) := by decide +kernel
theorem dL_vote_6 : decode cL_vote 6 = .ok (.iload_n 3, 1) := by decide +kernel
theorem dL_vote_7 : decode cL_vote 7 = .ok (.invokevirtual 39, 3) := by decide +kernel
theorem dL_vote_10 : decode cL_vote 10 = .ok (.i2l, 1) := by decide +kernel
theorem dL_vote_11 : decode cL_vote 11 = .ok (.lastore, 1) := by decide +kernel
theorem dL_vote_12 : decode cL_vote 12 = .ok (.goto 15, 3) := by decide +kernel
theorem dL_vote_15 : decode cL_vote 15 = .ok (.astore 5, 2) := by decide +kernel
theorem dL_vote_17 : decode cL_vote 17 = .ok (.iconst 1, 1) := by decide +kernel
theorem dL_vote_18 : decode cL_vote 18 = .ok (.ireturn, 1) := by decide +kernel
theorem dL_vote_19 : decode cL_vote 19 = .ok (.astore 5, 2) := by decide +kernel
theorem dL_vote_21 : decode cL_vote 21 = .ok (.iconst 2, 1) := by decide +kernel
theorem dL_vote_22 : decode cL_vote 22 = .ok (.ireturn, 1) := by decide +kernel
theorem dL_vote_23 : decode cL_vote 23 = .ok (.astore 5, 2) := by decide +kernel
theorem dL_vote_25 : decode cL_vote 25 = .ok (.iconst 3, 1) := by decide +kernel
theorem dL_vote_26 : decode cL_vote 26 = .ok (.ireturn, 1) := by decide +kernel
theorem dL_vote_27 : decode cL_vote 27 = .ok (.iconst 0, 1) := by decide +kernel
theorem dL_vote_28 : decode cL_vote 28 = .ok (.ireturn, 1) := by decide +kernel
theorem dL_verdict_0 : decode cL_verdict 0 = .ok (.aload_n 3, 1) := by decide +kernel
theorem dL_verdict_1 : decode cL_verdict 1 = .ok (.iconst 0, 1) := by decide +kernel
theorem dL_verdict_2 : decode cL_verdict 2 = .ok (.aload_n 0, 1) := by decide +kernel
theorem dL_verdict_3 : decode cL_verdict 3 = .ok (.iload_n 1, 1) := by decide +kernel
theorem dL_verdict_4 : decode cL_verdict 4 = .ok (.iload_n 2, 1) := by decide +kernel
theorem dL_verdict_5 : decode cL_verdict 5 = .ok (.invokevirtual 43, 3) := by decide +kernel
theorem dL_verdict_8 : decode cL_verdict 8 = .ok (.i2l, 1) := by decide +kernel
theorem dL_verdict_9 : decode cL_verdict 9 = .ok (.lastore, 1) := by decide +kernel
theorem dL_verdict_10 : decode cL_verdict 10 = .ok (.goto 11, 3) := by decide +kernel
theorem dL_verdict_13 : decode cL_verdict 13 = .ok (.astore 4, 2) := by decide +kernel
theorem dL_verdict_15 : decode cL_verdict 15 = .ok (.iconst 1, 1) := by decide +kernel
theorem dL_verdict_16 : decode cL_verdict 16 = .ok (.ireturn, 1) := by decide +kernel
theorem dL_verdict_17 : decode cL_verdict 17 = .ok (.astore 4, 2) := by decide +kernel
theorem dL_verdict_19 : decode cL_verdict 19 = .ok (.iconst 2, 1) := by decide +kernel
theorem dL_verdict_20 : decode cL_verdict 20 = .ok (.ireturn, 1) := by decide +kernel
theorem dL_verdict_21 : decode cL_verdict 21 = .ok (.iconst 0, 1) := by decide +kernel
theorem dL_verdict_22 : decode cL_verdict 22 = .ok (.ireturn, 1) := by decide +kernel
theorem dL_asked_0 : decode cL_asked 0 = .ok (.aload_n 3, 1) := by decide +kernel
theorem dL_asked_1 : decode cL_asked 1 = .ok (.iconst 0, 1) := by decide +kernel
theorem dL_asked_2 : decode cL_asked 2 = .ok (.aload_n 0, 1) := by decide +kernel
theorem dL_asked_3 : decode cL_asked 3 = .ok (.iload_n 1, 1) := by decide +kernel
theorem dL_asked_4 : decode cL_asked 4 = .ok (.iload_n 2, 1) := by decide +kernel
theorem dL_asked_5 : decode cL_asked 5 = .ok (.invokevirtual 47, 3) := by decide +kernel
theorem dL_asked_8 : decode cL_asked 8 = .ok (.i2l, 1) := by decide +kernel
theorem dL_asked_9 : decode cL_asked 9 = .ok (.lastore, 1) := by decide +kernel
theorem dL_asked_10 : decode cL_asked 10 = .ok (.goto 11, 3) := by decide +kernel
theorem dL_asked_13 : decode cL_asked 13 = .ok (.astore 4, 2) := by decide +kernel
theorem dL_asked_15 : decode cL_asked 15 = .ok (.iconst 1, 1) := by decide +kernel
theorem dL_asked_16 : decode cL_asked 16 = .ok (.ireturn, 1) := by decide +kernel
theorem dL_asked_17 : decode cL_asked 17 = .ok (.astore 4, 2) := by decide +kernel
theorem dL_asked_19 : decode cL_asked 19 = .ok (.iconst 2, 1) := by decide +kernel
theorem dL_asked_20 : decode cL_asked 20 = .ok (.ireturn, 1) := by decide +kernel
theorem dL_asked_21 : decode cL_asked 21 = .ok (.iconst 0, 1) := by decide +kernel
theorem dL_asked_22 : decode cL_asked 22 = .ok (.ireturn, 1) := by decide +kernel
theorem dL_missing_0 : decode cL_missing 0 = .ok (.aload_n 2, 1) := by decide +kernel
theorem dL_missing_1 : decode cL_missing 1 = .ok (.iconst 0, 1) := by decide +kernel
theorem dL_missing_2 : decode cL_missing 2 = .ok (.aload_n 0, 1) := by decide +kernel
theorem dL_missing_3 : decode cL_missing 3 = .ok (.iload_n 1, 1) := by decide +kernel
theorem dL_missing_4 : decode cL_missing 4 = .ok (.invokevirtual 51, 3) := by decide +kernel
theorem dL_missing_7 : decode cL_missing 7 = .ok (.i2l, 1) := by decide +kernel
theorem dL_missing_8 : decode cL_missing 8 = .ok (.lastore, 1) := by decide +kernel
theorem dL_missing_9 : decode cL_missing 9 = .ok (.goto 6, 3) := by decide +kernel
theorem dL_missing_12 : decode cL_missing 12 = .ok (.astore_n 3, 1) := by decide +kernel
theorem dL_missing_13 : decode cL_missing 13 = .ok (.iconst 1, 1) := by decide +kernel
theorem dL_missing_14 : decode cL_missing 14 = .ok (.ireturn, 1) := by decide +kernel
theorem dL_missing_15 : decode cL_missing 15 = .ok (.iconst 0, 1) := by decide +kernel
theorem dL_missing_16 : decode cL_missing 16 = .ok (.ireturn, 1) := by decide +kernel
theorem dL_queue_0 : decode cL_queue 0 = .ok (.aload_n 2, 1) := by decide +kernel
theorem dL_queue_1 : decode cL_queue 1 = .ok (.iconst 0, 1) := by decide +kernel
theorem dL_queue_2 : decode cL_queue 2 = .ok (.aload_n 0, 1) := by decide +kernel
theorem dL_queue_3 : decode cL_queue 3 = .ok (.iload_n 1, 1) := by decide +kernel
theorem dL_queue_4 : decode cL_queue 4 = .ok (.invokevirtual 54, 3) := by decide +kernel
theorem dL_queue_7 : decode cL_queue 7 = .ok (.i2l, 1) := by decide +kernel
theorem dL_queue_8 : decode cL_queue 8 = .ok (.lastore, 1) := by decide +kernel
theorem dL_queue_9 : decode cL_queue 9 = .ok (.goto 12, 3) := by decide +kernel
theorem dL_queue_12 : decode cL_queue 12 = .ok (.astore_n 3, 1) := by decide +kernel
theorem dL_queue_13 : decode cL_queue 13 = .ok (.iconst 1, 1) := by decide +kernel
theorem dL_queue_14 : decode cL_queue 14 = .ok (.ireturn, 1) := by decide +kernel
theorem dL_queue_15 : decode cL_queue 15 = .ok (.astore_n 3, 1) := by decide +kernel
theorem dL_queue_16 : decode cL_queue 16 = .ok (.iconst 2, 1) := by decide +kernel
theorem dL_queue_17 : decode cL_queue 17 = .ok (.ireturn, 1) := by decide +kernel
theorem dL_queue_18 : decode cL_queue 18 = .ok (.astore_n 3, 1) := by decide +kernel
theorem dL_queue_19 : decode cL_queue 19 = .ok (.iconst 3, 1) := by decide +kernel
theorem dL_queue_20 : decode cL_queue 20 = .ok (.ireturn, 1) := by decide +kernel
theorem dL_queue_21 : decode cL_queue 21 = .ok (.iconst 0, 1) := by decide +kernel
theorem dL_queue_22 : decode cL_queue 22 = .ok (.ireturn, 1) := by decide +kernel
theorem dL_unqueue_0 : decode cL_unqueue 0 = .ok (.aload_n 2, 1) := by decide +kernel
theorem dL_unqueue_1 : decode cL_unqueue 1 = .ok (.iconst 0, 1) := by decide +kernel
theorem dL_unqueue_2 : decode cL_unqueue 2 = .ok (.aload_n 0, 1) := by decide +kernel
theorem dL_unqueue_3 : decode cL_unqueue 3 = .ok (.iload_n 1, 1) := by decide +kernel
theorem dL_unqueue_4 : decode cL_unqueue 4 = .ok (.invokevirtual 59, 3) := by decide +kernel
theorem dL_unqueue_7 : decode cL_unqueue 7 = .ok (.i2l, 1) := by decide +kernel
theorem dL_unqueue_8 : decode cL_unqueue 8 = .ok (.lastore, 1) := by decide +kernel
theorem dL_unqueue_9 : decode cL_unqueue 9 = .ok (.goto 9, 3) := by decide +kernel
theorem dL_unqueue_12 : decode cL_unqueue 12 = .ok (.astore_n 3, 1) := by decide +kernel
theorem dL_unqueue_13 : decode cL_unqueue 13 = .ok (.iconst 1, 1) := by decide +kernel
theorem dL_unqueue_14 : decode cL_unqueue 14 = .ok (.ireturn, 1) := by decide +kernel
theorem dL_unqueue_15 : decode cL_unqueue 15 = .ok (.astore_n 3, 1) := by decide +kernel
theorem dL_unqueue_16 : decode cL_unqueue 16 = .ok (.iconst 2, 1) := by decide +kernel
theorem dL_unqueue_17 : decode cL_unqueue 17 = .ok (.ireturn, 1) := by decide +kernel
theorem dL_unqueue_18 : decode cL_unqueue 18 = .ok (.iconst 0, 1) := by decide +kernel
theorem dL_unqueue_19 : decode cL_unqueue 19 = .ok (.ireturn, 1) := by decide +kernel
theorem dL_queueAt_0 : decode cL_queueAt 0 = .ok (.aload_n 2, 1) := by decide +kernel
theorem dL_queueAt_1 : decode cL_queueAt 1 = .ok (.iconst 0, 1) := by decide +kernel
theorem dL_queueAt_2 : decode cL_queueAt 2 = .ok (.aload_n 0, 1) := by decide +kernel
theorem dL_queueAt_3 : decode cL_queueAt 3 = .ok (.iload_n 1, 1) := by decide +kernel
theorem dL_queueAt_4 : decode cL_queueAt 4 = .ok (.invokevirtual 62, 3) := by decide +kernel
theorem dL_queueAt_7 : decode cL_queueAt 7 = .ok (.i2l, 1) := by decide +kernel
theorem dL_queueAt_8 : decode cL_queueAt 8 = .ok (.lastore, 1) := by decide +kernel
theorem dL_queueAt_9 : decode cL_queueAt 9 = .ok (.goto 6, 3) := by decide +kernel
theorem dL_queueAt_12 : decode cL_queueAt 12 = .ok (.astore_n 3, 1) := by decide +kernel
theorem dL_queueAt_13 : decode cL_queueAt 13 = .ok (.iconst 1, 1) := by decide +kernel
theorem dL_queueAt_14 : decode cL_queueAt 14 = .ok (.ireturn, 1) := by decide +kernel
theorem dL_queueAt_15 : decode cL_queueAt 15 = .ok (.iconst 0, 1) := by decide +kernel
theorem dL_queueAt_16 : decode cL_queueAt 16 = .ok (.ireturn, 1) := by decide +kernel
theorem dL_step_0 : decode cL_step 0 = .ok (.aload_n 1, 1) := by decide +kernel
theorem dL_step_1 : decode cL_step 1 = .ok (.iconst 0, 1) := by decide +kernel
theorem dL_step_2 : decode cL_step 2 = .ok (.aload_n 0, 1) := by decide +kernel
theorem dL_step_3 : decode cL_step 3 = .ok (.invokevirtual 65, 3) := by decide +kernel
theorem dL_step_6 : decode cL_step 6 = .ok (.i2l, 1) := by decide +kernel
theorem dL_step_7 : decode cL_step 7 = .ok (.lastore, 1) := by decide +kernel
theorem dL_step_8 : decode cL_step 8 = .ok (.goto 6, 3) := by decide +kernel
theorem dL_step_11 : decode cL_step 11 = .ok (.astore_n 2, 1) := by decide +kernel
theorem dL_step_12 : decode cL_step 12 = .ok (.iconst 1, 1) := by decide +kernel
theorem dL_step_13 : decode cL_step 13 = .ok (.ireturn, 1) := by decide +kernel
theorem dL_step_14 : decode cL_step 14 = .ok (.iconst 0, 1) := by decide +kernel
theorem dL_step_15 : decode cL_step 15 = .ok (.ireturn, 1) := by decide +kernel
theorem dL_setFrozen_0 : decode cL_setFrozen 0 = .ok (.aload_n 3, 1) := by decide +kernel
theorem dL_setFrozen_1 : decode cL_setFrozen 1 = .ok (.iconst 0, 1) := by decide +kernel
theorem dL_setFrozen_2 : decode cL_setFrozen 2 = .ok (.aload_n 0, 1) := by decide +kernel
theorem dL_setFrozen_3 : decode cL_setFrozen 3 = .ok (.iload_n 1, 1) := by decide +kernel
theorem dL_setFrozen_4 : decode cL_setFrozen 4 = .ok (.iload_n 2, 1) := by decide +kernel
theorem dL_setFrozen_5 : decode cL_setFrozen 5 = .ok (.invokevirtual 69, 3) := by decide +kernel
theorem dL_setFrozen_8 : decode cL_setFrozen 8 = .ok (.ifCond .eq 7, 3) := by decide +kernel
theorem dL_setFrozen_11 : decode cL_setFrozen 11 = .ok (.lconst 1, 1) := by decide +kernel
theorem dL_setFrozen_12 : decode cL_setFrozen 12 = .ok (.goto 4, 3) := by decide +kernel
theorem dL_setFrozen_15 : decode cL_setFrozen 15 = .ok (.lconst 0, 1) := by decide +kernel
theorem dL_setFrozen_16 : decode cL_setFrozen 16 = .ok (.lastore, 1) := by decide +kernel
theorem dL_setFrozen_17 : decode cL_setFrozen 17 = .ok (.goto 7, 3) := by decide +kernel
theorem dL_setFrozen_20 : decode cL_setFrozen 20 = .ok (.astore 4, 2) := by decide +kernel
theorem dL_setFrozen_22 : decode cL_setFrozen 22 = .ok (.iconst 1, 1) := by decide +kernel
theorem dL_setFrozen_23 : decode cL_setFrozen 23 = .ok (.ireturn, 1) := by decide +kernel
theorem dL_setFrozen_24 : decode cL_setFrozen 24 = .ok (.iconst 0, 1) := by decide +kernel
theorem dL_setFrozen_25 : decode cL_setFrozen 25 = .ok (.ireturn, 1) := by decide +kernel
theorem dL_stateOf_0 : decode cL_stateOf 0 = .ok (.aload_n 2, 1) := by decide +kernel
theorem dL_stateOf_1 : decode cL_stateOf 1 = .ok (.iconst 0, 1) := by decide +kernel
theorem dL_stateOf_2 : decode cL_stateOf 2 = .ok (.aload_n 0, 1) := by decide +kernel
theorem dL_stateOf_3 : decode cL_stateOf 3 = .ok (.iload_n 1, 1) := by decide +kernel
theorem dL_stateOf_4 : decode cL_stateOf 4 = .ok (.invokevirtual 72, 3) := by decide +kernel
theorem dL_stateOf_7 : decode cL_stateOf 7 = .ok (.i2l, 1) := by decide +kernel
theorem dL_stateOf_8 : decode cL_stateOf 8 = .ok (.lastore, 1) := by decide +kernel
theorem dL_stateOf_9 : decode cL_stateOf 9 = .ok (.goto 6, 3) := by decide +kernel
theorem dL_stateOf_12 : decode cL_stateOf 12 = .ok (.astore_n 3, 1) := by decide +kernel
theorem dL_stateOf_13 : decode cL_stateOf 13 = .ok (.iconst 1, 1) := by decide +kernel
theorem dL_stateOf_14 : decode cL_stateOf 14 = .ok (.ireturn, 1) := by decide +kernel
theorem dL_stateOf_15 : decode cL_stateOf 15 = .ok (.iconst 0, 1) := by decide +kernel
theorem dL_stateOf_16 : decode cL_stateOf 16 = .ok (.ireturn, 1) := by decide +kernel
theorem dL_hasFailed_0 : decode cL_hasFailed 0 = .ok (.aload_n 2, 1) := by decide +kernel
theorem dL_hasFailed_1 : decode cL_hasFailed 1 = .ok (.iconst 0, 1) := by decide +kernel
theorem dL_hasFailed_2 : decode cL_hasFailed 2 = .ok (.aload_n 0, 1) := by decide +kernel
theorem dL_hasFailed_3 : decode cL_hasFailed 3 = .ok (.iload_n 1, 1) := by decide +kernel
theorem dL_hasFailed_4 : decode cL_hasFailed 4 = .ok (.invokevirtual 76, 3) := by decide +kernel
theorem dL_hasFailed_7 : decode cL_hasFailed 7 = .ok (.ifCond .eq 7, 3) := by decide +kernel
theorem dL_hasFailed_10 : decode cL_hasFailed 10 = .ok (.lconst 1, 1) := by decide +kernel
theorem dL_hasFailed_11 : decode cL_hasFailed 11 = .ok (.goto 4, 3) := by decide +kernel
theorem dL_hasFailed_14 : decode cL_hasFailed 14 = .ok (.lconst 0, 1) := by decide +kernel
theorem dL_hasFailed_15 : decode cL_hasFailed 15 = .ok (.lastore, 1) := by decide +kernel
theorem dL_hasFailed_16 : decode cL_hasFailed 16 = .ok (.goto 6, 3) := by decide +kernel
theorem dL_hasFailed_19 : decode cL_hasFailed 19 = .ok (.astore_n 3, 1) := by decide +kernel
theorem dL_hasFailed_20 : decode cL_hasFailed 20 = .ok (.iconst 1, 1) := by decide +kernel
theorem dL_hasFailed_21 : decode cL_hasFailed 21 = .ok (.ireturn, 1) := by decide +kernel
theorem dL_hasFailed_22 : decode cL_hasFailed 22 = .ok (.iconst 0, 1) := by decide +kernel
theorem dL_hasFailed_23 : decode cL_hasFailed 23 = .ok (.ireturn, 1) := by decide +kernel
theorem dL_clashes_0 : decode cL_clashes 0 = .ok (.aload_n 2, 1) := by decide +kernel
theorem dL_clashes_1 : decode cL_clashes 1 = .ok (.iconst 0, 1) := by decide +kernel
theorem dL_clashes_2 : decode cL_clashes 2 = .ok (.aload_n 0, 1) := by decide +kernel
theorem dL_clashes_3 : decode cL_clashes 3 = .ok (.iload_n 1, 1) := by decide +kernel
theorem dL_clashes_4 : decode cL_clashes 4 = .ok (.invokevirtual 80, 3) := by decide +kernel
theorem dL_clashes_7 : decode cL_clashes 7 = .ok (.i2l, 1) := by decide +kernel
theorem dL_clashes_8 : decode cL_clashes 8 = .ok (.lastore, 1) := by decide +kernel
theorem dL_clashes_9 : decode cL_clashes 9 = .ok (.goto 6, 3) := by decide +kernel
theorem dL_clashes_12 : decode cL_clashes 12 = .ok (.astore_n 3, 1) := by decide +kernel
theorem dL_clashes_13 : decode cL_clashes 13 = .ok (.iconst 1, 1) := by decide +kernel
theorem dL_clashes_14 : decode cL_clashes 14 = .ok (.ireturn, 1) := by decide +kernel
theorem dL_clashes_15 : decode cL_clashes 15 = .ok (.iconst 0, 1) := by decide +kernel
theorem dL_clashes_16 : decode cL_clashes 16 = .ok (.ireturn, 1) := by decide +kernel
theorem dL_update_0 : decode cL_update 0 = .ok (.aload_n 2, 1) := by decide +kernel
theorem dL_update_1 : decode cL_update 1 = .ok (.iconst 0, 1) := by decide +kernel
theorem dL_update_2 : decode cL_update 2 = .ok (.aload_n 0, 1) := by decide +kernel
theorem dL_update_3 : decode cL_update 3 = .ok (.iload_n 1, 1) := by decide +kernel
theorem dL_update_4 : decode cL_update 4 = .ok (.invokevirtual 83, 3) := by decide +kernel
theorem dL_update_7 : decode cL_update 7 = .ok (.i2l, 1) := by decide +kernel
theorem dL_update_8 : decode cL_update 8 = .ok (.lastore, 1) := by decide +kernel
theorem dL_update_9 : decode cL_update 9 = .ok (.goto 9, 3) := by decide +kernel
theorem dL_update_12 : decode cL_update 12 = .ok (.astore_n 3, 1) := by decide +kernel
theorem dL_update_13 : decode cL_update 13 = .ok (.iconst 1, 1) := by decide +kernel
theorem dL_update_14 : decode cL_update 14 = .ok (.ireturn, 1) := by decide +kernel
theorem dL_update_15 : decode cL_update 15 = .ok (.astore_n 3, 1) := by decide +kernel
theorem dL_update_16 : decode cL_update 16 = .ok (.iconst 2, 1) := by decide +kernel
theorem dL_update_17 : decode cL_update 17 = .ok (.ireturn, 1) := by decide +kernel
theorem dL_update_18 : decode cL_update 18 = .ok (.iconst 0, 1) := by decide +kernel
theorem dL_update_19 : decode cL_update 19 = .ok (.ireturn, 1) := by decide +kernel
theorem dL_addTest_0 : decode cL_addTest 0 = .ok (.aload 6, 2) := by decide +kernel
theorem dL_addTest_2 : decode cL_addTest 2 = .ok (.iconst 0, 1) := by decide +kernel
theorem dL_addTest_3 : decode cL_addTest 3 = .ok (.aload_n 0, 1) := by decide +kernel
theorem dL_addTest_4 : decode cL_addTest 4 = .ok (.iload_n 1, 1) := by decide +kernel
theorem dL_addTest_5 : decode cL_addTest 5 = .ok (.iload_n 2, 1) := by decide +kernel
theorem dL_addTest_6 : decode cL_addTest 6 = .ok (.iload_n 3, 1) := by decide +kernel
theorem dL_addTest_7 : decode cL_addTest 7 = .ok (.iload 4, 2) := by decide +kernel
theorem dL_addTest_9 : decode cL_addTest 9 = .ok (.iload 5, 2) := by decide +kernel
theorem dL_addTest_11 : decode cL_addTest 11 = .ok (.invokevirtual 86, 3) := by decide +kernel
theorem dL_addTest_14 : decode cL_addTest 14 = .ok (.i2l, 1) := by decide +kernel
theorem dL_addTest_15 : decode cL_addTest 15 = .ok (.lastore, 1) := by decide +kernel
theorem dL_addTest_16 : decode cL_addTest 16 = .ok (.goto 19, 3) := by decide +kernel
theorem dL_addTest_19 : decode cL_addTest 19 = .ok (.astore 7, 2) := by decide +kernel
theorem dL_addTest_21 : decode cL_addTest 21 = .ok (.iconst 1, 1) := by decide +kernel
theorem dL_addTest_22 : decode cL_addTest 22 = .ok (.ireturn, 1) := by decide +kernel
theorem dL_addTest_23 : decode cL_addTest 23 = .ok (.astore 7, 2) := by decide +kernel
theorem dL_addTest_25 : decode cL_addTest 25 = .ok (.iconst 2, 1) := by decide +kernel
theorem dL_addTest_26 : decode cL_addTest 26 = .ok (.ireturn, 1) := by decide +kernel
theorem dL_addTest_27 : decode cL_addTest 27 = .ok (.astore 7, 2) := by decide +kernel
theorem dL_addTest_29 : decode cL_addTest 29 = .ok (.iconst 3, 1) := by decide +kernel
theorem dL_addTest_30 : decode cL_addTest 30 = .ok (.ireturn, 1) := by decide +kernel
theorem dL_addTest_31 : decode cL_addTest 31 = .ok (.astore 7, 2) := by decide +kernel
theorem dL_addTest_33 : decode cL_addTest 33 = .ok (.iconst 4, 1) := by decide +kernel
theorem dL_addTest_34 : decode cL_addTest 34 = .ok (.ireturn, 1) := by decide +kernel
theorem dL_addTest_35 : decode cL_addTest 35 = .ok (.iconst 0, 1) := by decide +kernel
theorem dL_addTest_36 : decode cL_addTest 36 = .ok (.ireturn, 1) := by decide +kernel
theorem dL_dropTest_0 : decode cL_dropTest 0 = .ok (.aload_n 2, 1) := by decide +kernel
theorem dL_dropTest_1 : decode cL_dropTest 1 = .ok (.iconst 0, 1) := by decide +kernel
theorem dL_dropTest_2 : decode cL_dropTest 2 = .ok (.aload_n 0, 1) := by decide +kernel
theorem dL_dropTest_3 : decode cL_dropTest 3 = .ok (.iload_n 1, 1) := by decide +kernel
theorem dL_dropTest_4 : decode cL_dropTest 4 = .ok (.invokevirtual 90, 3) := by decide +kernel
theorem dL_dropTest_7 : decode cL_dropTest 7 = .ok (.i2l, 1) := by decide +kernel
theorem dL_dropTest_8 : decode cL_dropTest 8 = .ok (.lastore, 1) := by decide +kernel
theorem dL_dropTest_9 : decode cL_dropTest 9 = .ok (.goto 6, 3) := by decide +kernel
theorem dL_dropTest_12 : decode cL_dropTest 12 = .ok (.astore_n 3, 1) := by decide +kernel
theorem dL_dropTest_13 : decode cL_dropTest 13 = .ok (.iconst 1, 1) := by decide +kernel
theorem dL_dropTest_14 : decode cL_dropTest 14 = .ok (.ireturn, 1) := by decide +kernel
theorem dL_dropTest_15 : decode cL_dropTest 15 = .ok (.iconst 0, 1) := by decide +kernel
theorem dL_dropTest_16 : decode cL_dropTest 16 = .ok (.ireturn, 1) := by decide +kernel
theorem dL_value_0 : decode cL_value 0 = .ok (.aload_n 3, 1) := by decide +kernel
theorem dL_value_1 : decode cL_value 1 = .ok (.iconst 0, 1) := by decide +kernel
theorem dL_value_2 : decode cL_value 2 = .ok (.aload_n 0, 1) := by decide +kernel
theorem dL_value_3 : decode cL_value 3 = .ok (.iload_n 1, 1) := by decide +kernel
theorem dL_value_4 : decode cL_value 4 = .ok (.iload_n 2, 1) := by decide +kernel
theorem dL_value_5 : decode cL_value 5 = .ok (.invokevirtual 93, 3) := by decide +kernel
theorem dL_value_8 : decode cL_value 8 = .ok (.i2l, 1) := by decide +kernel
theorem dL_value_9 : decode cL_value 9 = .ok (.lastore, 1) := by decide +kernel
theorem dL_value_10 : decode cL_value 10 = .ok (.goto 7, 3) := by decide +kernel
theorem dL_value_13 : decode cL_value 13 = .ok (.astore 4, 2) := by decide +kernel
theorem dL_value_15 : decode cL_value 15 = .ok (.iconst 1, 1) := by decide +kernel
theorem dL_value_16 : decode cL_value 16 = .ok (.ireturn, 1) := by decide +kernel
theorem dL_value_17 : decode cL_value 17 = .ok (.iconst 0, 1) := by decide +kernel
theorem dL_value_18 : decode cL_value 18 = .ok (.ireturn, 1) := by decide +kernel
theorem dL_valueByMerges_0 : decode cL_valueByMerges 0 = .ok (.aload_n 3, 1) := by decide +kernel
theorem dL_valueByMerges_1 : decode cL_valueByMerges 1 = .ok (.iconst 0, 1) := by decide +kernel
theorem dL_valueByMerges_2 : decode cL_valueByMerges 2 = .ok (.aload_n 0, 1) := by decide +kernel
theorem dL_valueByMerges_3 : decode cL_valueByMerges 3 = .ok (.iload_n 1, 1) := by decide +kernel
theorem dL_valueByMerges_4 : decode cL_valueByMerges 4 = .ok (.iload_n 2, 1) := by decide +kernel
theorem dL_valueByMerges_5 : decode cL_valueByMerges 5 = .ok (.invokevirtual 96, 3) := by decide +kernel
theorem dL_valueByMerges_8 : decode cL_valueByMerges 8 = .ok (.i2l, 1) := by decide +kernel
theorem dL_valueByMerges_9 : decode cL_valueByMerges 9 = .ok (.lastore, 1) := by decide +kernel
theorem dL_valueByMerges_10 : decode cL_valueByMerges 10 = .ok (.goto 7, 3) := by decide +kernel
theorem dL_valueByMerges_13 : decode cL_valueByMerges 13 = .ok (.astore 4, 2) := by decide +kernel
theorem dL_valueByMerges_15 : decode cL_valueByMerges 15 = .ok (.iconst 1, 1) := by decide +kernel
theorem dL_valueByMerges_16 : decode cL_valueByMerges 16 = .ok (.ireturn, 1) := by decide +kernel
theorem dL_valueByMerges_17 : decode cL_valueByMerges 17 = .ok (.iconst 0, 1) := by decide +kernel
theorem dL_valueByMerges_18 : decode cL_valueByMerges 18 = .ok (.ireturn, 1) := by decide +kernel
theorem dL_valueWith_0 : decode cL_valueWith 0 = .ok (.aload 4, 2) := by decide +kernel
theorem dL_valueWith_2 : decode cL_valueWith 2 = .ok (.iconst 0, 1) := by decide +kernel
theorem dL_valueWith_3 : decode cL_valueWith 3 = .ok (.aload_n 0, 1) := by decide +kernel
theorem dL_valueWith_4 : decode cL_valueWith 4 = .ok (.iload_n 1, 1) := by decide +kernel
theorem dL_valueWith_5 : decode cL_valueWith 5 = .ok (.iload_n 2, 1) := by decide +kernel
theorem dL_valueWith_6 : decode cL_valueWith 6 = .ok (.iload_n 3, 1) := by decide +kernel
theorem dL_valueWith_7 : decode cL_valueWith 7 = .ok (.invokevirtual 99, 3) := by decide +kernel
theorem dL_valueWith_10 : decode cL_valueWith 10 = .ok (.i2l, 1) := by decide +kernel
theorem dL_valueWith_11 : decode cL_valueWith 11 = .ok (.lastore, 1) := by decide +kernel
theorem dL_valueWith_12 : decode cL_valueWith 12 = .ok (.goto 11, 3) := by decide +kernel
theorem dL_valueWith_15 : decode cL_valueWith 15 = .ok (.astore 5, 2) := by decide +kernel
theorem dL_valueWith_17 : decode cL_valueWith 17 = .ok (.iconst 1, 1) := by decide +kernel
theorem dL_valueWith_18 : decode cL_valueWith 18 = .ok (.ireturn, 1) := by decide +kernel
theorem dL_valueWith_19 : decode cL_valueWith 19 = .ok (.astore 5, 2) := by decide +kernel
theorem dL_valueWith_21 : decode cL_valueWith 21 = .ok (.iconst 2, 1) := by decide +kernel
theorem dL_valueWith_22 : decode cL_valueWith 22 = .ok (.ireturn, 1) := by decide +kernel
theorem dL_valueWith_23 : decode cL_valueWith 23 = .ok (.iconst 0, 1) := by decide +kernel
theorem dL_valueWith_24 : decode cL_valueWith 24 = .ok (.ireturn, 1) := by decide +kernel
theorem dL_along_0 : decode cL_along 0 = .ok (.aload_n 2, 1) := by decide +kernel
theorem dL_along_1 : decode cL_along 1 = .ok (.iconst 0, 1) := by decide +kernel
theorem dL_along_2 : decode cL_along 2 = .ok (.aload_n 0, 1) := by decide +kernel
theorem dL_along_3 : decode cL_along 3 = .ok (.iload_n 1, 1) := by decide +kernel
theorem dL_along_4 : decode cL_along 4 = .ok (.invokevirtual 102, 3) := by decide +kernel
theorem dL_along_7 : decode cL_along 7 = .ok (.i2l, 1) := by decide +kernel
theorem dL_along_8 : decode cL_along 8 = .ok (.lastore, 1) := by decide +kernel
theorem dL_along_9 : decode cL_along 9 = .ok (.goto 9, 3) := by decide +kernel
theorem dL_along_12 : decode cL_along 12 = .ok (.astore_n 3, 1) := by decide +kernel
theorem dL_along_13 : decode cL_along 13 = .ok (.iconst 1, 1) := by decide +kernel
theorem dL_along_14 : decode cL_along 14 = .ok (.ireturn, 1) := by decide +kernel
theorem dL_along_15 : decode cL_along 15 = .ok (.astore_n 3, 1) := by decide +kernel
theorem dL_along_16 : decode cL_along 16 = .ok (.iconst 2, 1) := by decide +kernel
theorem dL_along_17 : decode cL_along 17 = .ok (.ireturn, 1) := by decide +kernel
theorem dL_along_18 : decode cL_along 18 = .ok (.iconst 0, 1) := by decide +kernel
theorem dL_along_19 : decode cL_along 19 = .ok (.ireturn, 1) := by decide +kernel
theorem dL_revert_0 : decode cL_revert 0 = .ok (.aload_n 2, 1) := by decide +kernel
theorem dL_revert_1 : decode cL_revert 1 = .ok (.iconst 0, 1) := by decide +kernel
theorem dL_revert_2 : decode cL_revert 2 = .ok (.aload_n 0, 1) := by decide +kernel
theorem dL_revert_3 : decode cL_revert 3 = .ok (.iload_n 1, 1) := by decide +kernel
theorem dL_revert_4 : decode cL_revert 4 = .ok (.invokevirtual 105, 3) := by decide +kernel
theorem dL_revert_7 : decode cL_revert 7 = .ok (.i2l, 1) := by decide +kernel
theorem dL_revert_8 : decode cL_revert 8 = .ok (.lastore, 1) := by decide +kernel
theorem dL_revert_9 : decode cL_revert 9 = .ok (.goto 12, 3) := by decide +kernel
theorem dL_revert_12 : decode cL_revert 12 = .ok (.astore_n 3, 1) := by decide +kernel
theorem dL_revert_13 : decode cL_revert 13 = .ok (.iconst 1, 1) := by decide +kernel
theorem dL_revert_14 : decode cL_revert 14 = .ok (.ireturn, 1) := by decide +kernel
theorem dL_revert_15 : decode cL_revert 15 = .ok (.astore_n 3, 1) := by decide +kernel
theorem dL_revert_16 : decode cL_revert 16 = .ok (.iconst 2, 1) := by decide +kernel
theorem dL_revert_17 : decode cL_revert 17 = .ok (.ireturn, 1) := by decide +kernel
theorem dL_revert_18 : decode cL_revert 18 = .ok (.astore_n 3, 1) := by decide +kernel
theorem dL_revert_19 : decode cL_revert 19 = .ok (.iconst 3, 1) := by decide +kernel
theorem dL_revert_20 : decode cL_revert 20 = .ok (.ireturn, 1) := by decide +kernel
theorem dL_revert_21 : decode cL_revert 21 = .ok (.iconst 0, 1) := by decide +kernel
theorem dL_revert_22 : decode cL_revert 22 = .ok (.ireturn, 1) := by decide +kernel
theorem dL_mergedAt_0 : decode cL_mergedAt 0 = .ok (.aload_n 2, 1) := by decide +kernel
theorem dL_mergedAt_1 : decode cL_mergedAt 1 = .ok (.iconst 0, 1) := by decide +kernel
theorem dL_mergedAt_2 : decode cL_mergedAt 2 = .ok (.aload_n 0, 1) := by decide +kernel
theorem dL_mergedAt_3 : decode cL_mergedAt 3 = .ok (.iload_n 1, 1) := by decide +kernel
theorem dL_mergedAt_4 : decode cL_mergedAt 4 = .ok (.invokevirtual 108, 3) := by decide +kernel
theorem dL_mergedAt_7 : decode cL_mergedAt 7 = .ok (.i2l, 1) := by decide +kernel
theorem dL_mergedAt_8 : decode cL_mergedAt 8 = .ok (.lastore, 1) := by decide +kernel
theorem dL_mergedAt_9 : decode cL_mergedAt 9 = .ok (.goto 6, 3) := by decide +kernel
theorem dL_mergedAt_12 : decode cL_mergedAt 12 = .ok (.astore_n 3, 1) := by decide +kernel
theorem dL_mergedAt_13 : decode cL_mergedAt 13 = .ok (.iconst 1, 1) := by decide +kernel
theorem dL_mergedAt_14 : decode cL_mergedAt 14 = .ok (.ireturn, 1) := by decide +kernel
theorem dL_mergedAt_15 : decode cL_mergedAt 15 = .ok (.iconst 0, 1) := by decide +kernel
theorem dL_mergedAt_16 : decode cL_mergedAt 16 = .ok (.ireturn, 1) := by decide +kernel
theorem dL_isGood_0 : decode cL_isGood 0 = .ok (.aload_n 2, 1) := by decide +kernel
theorem dL_isGood_1 : decode cL_isGood 1 = .ok (.iconst 0, 1) := by decide +kernel
theorem dL_isGood_2 : decode cL_isGood 2 = .ok (.aload_n 0, 1) := by decide +kernel
theorem dL_isGood_3 : decode cL_isGood 3 = .ok (.iload_n 1, 1) := by decide +kernel
theorem dL_isGood_4 : decode cL_isGood 4 = .ok (.invokevirtual 111, 3) := by decide +kernel
theorem dL_isGood_7 : decode cL_isGood 7 = .ok (.ifCond .eq 7, 3) := by decide +kernel
theorem dL_isGood_10 : decode cL_isGood 10 = .ok (.lconst 1, 1) := by decide +kernel
theorem dL_isGood_11 : decode cL_isGood 11 = .ok (.goto 4, 3) := by decide +kernel
theorem dL_isGood_14 : decode cL_isGood 14 = .ok (.lconst 0, 1) := by decide +kernel
theorem dL_isGood_15 : decode cL_isGood 15 = .ok (.lastore, 1) := by decide +kernel
theorem dL_isGood_16 : decode cL_isGood 16 = .ok (.goto 6, 3) := by decide +kernel
theorem dL_isGood_19 : decode cL_isGood 19 = .ok (.astore_n 3, 1) := by decide +kernel
theorem dL_isGood_20 : decode cL_isGood 20 = .ok (.iconst 1, 1) := by decide +kernel
theorem dL_isGood_21 : decode cL_isGood 21 = .ok (.ireturn, 1) := by decide +kernel
theorem dL_isGood_22 : decode cL_isGood 22 = .ok (.iconst 0, 1) := by decide +kernel
theorem dL_isGood_23 : decode cL_isGood 23 = .ok (.ireturn, 1) := by decide +kernel
theorem dL_takenShare_0 : decode cL_takenShare 0 = .ok (.aload_n 1, 1) := by decide +kernel
theorem dL_takenShare_1 : decode cL_takenShare 1 = .ok (.iconst 0, 1) := by decide +kernel
theorem dL_takenShare_2 : decode cL_takenShare 2 = .ok (.aload_n 0, 1) := by decide +kernel
theorem dL_takenShare_3 : decode cL_takenShare 3 = .ok (.invokevirtual 114, 3) := by decide +kernel
theorem dL_takenShare_6 : decode cL_takenShare 6 = .ok (.f2d, 1) := by decide +kernel
theorem dL_takenShare_7 : decode cL_takenShare 7 = .ok (.dastore, 1) := by decide +kernel
theorem dL_takenShare_8 : decode cL_takenShare 8 = .ok (.goto 6, 3) := by decide +kernel
theorem dL_takenShare_11 : decode cL_takenShare 11 = .ok (.astore_n 2, 1) := by decide +kernel
theorem dL_takenShare_12 : decode cL_takenShare 12 = .ok (.iconst 1, 1) := by decide +kernel
theorem dL_takenShare_13 : decode cL_takenShare 13 = .ok (.ireturn, 1) := by decide +kernel
theorem dL_takenShare_14 : decode cL_takenShare 14 = .ok (.iconst 0, 1) := by decide +kernel
theorem dL_takenShare_15 : decode cL_takenShare 15 = .ok (.ireturn, 1) := by decide +kernel
theorem dL_meanEdits_0 : decode cL_meanEdits 0 = .ok (.aload_n 1, 1) := by decide +kernel
theorem dL_meanEdits_1 : decode cL_meanEdits 1 = .ok (.iconst 0, 1) := by decide +kernel
theorem dL_meanEdits_2 : decode cL_meanEdits 2 = .ok (.aload_n 0, 1) := by decide +kernel
theorem dL_meanEdits_3 : decode cL_meanEdits 3 = .ok (.invokevirtual 120, 3) := by decide +kernel
theorem dL_meanEdits_6 : decode cL_meanEdits 6 = .ok (.dastore, 1) := by decide +kernel
theorem dL_meanEdits_7 : decode cL_meanEdits 7 = .ok (.goto 6, 3) := by decide +kernel
theorem dL_meanEdits_10 : decode cL_meanEdits 10 = .ok (.astore_n 2, 1) := by decide +kernel
theorem dL_meanEdits_11 : decode cL_meanEdits 11 = .ok (.iconst 1, 1) := by decide +kernel
theorem dL_meanEdits_12 : decode cL_meanEdits 12 = .ok (.ireturn, 1) := by decide +kernel
theorem dL_meanEdits_13 : decode cL_meanEdits 13 = .ok (.iconst 0, 1) := by decide +kernel
theorem dL_meanEdits_14 : decode cL_meanEdits 14 = .ok (.ireturn, 1) := by decide +kernel
theorem dL_law_0 : decode cL_law 0 = .ok (.new 8, 3) := by decide +kernel
theorem dL_law_3 : decode cL_law 3 = .ok (.dup, 1) := by decide +kernel
theorem dL_law_4 : decode cL_law 4 = .ok (.invokespecial 124, 3) := by decide +kernel
theorem dL_law_7 : decode cL_law 7 = .ok (.astore_n 1, 1) := by decide +kernel
theorem dL_law_8 : decode cL_law 8 = .ok (.new 125, 3) := by decide +kernel
theorem dL_law_11 : decode cL_law 11 = .ok (.dup, 1) := by decide +kernel
theorem dL_law_12 : decode cL_law 12 = .ok (.invokespecial 127, 3) := by decide +kernel
theorem dL_law_15 : decode cL_law 15 = .ok (.astore_n 2, 1) := by decide +kernel
theorem dL_law_16 : decode cL_law 16 = .ok (.iconst 1, 1) := by decide +kernel
theorem dL_law_17 : decode cL_law 17 = .ok (.newarray .long, 2) := by decide +kernel
theorem dL_law_19 : decode cL_law 19 = .ok (.astore_n 3, 1) := by decide +kernel
theorem dL_law_20 : decode cL_law 20 = .ok (.iconst 1, 1) := by decide +kernel
theorem dL_law_21 : decode cL_law 21 = .ok (.newarray .double, 2) := by decide +kernel
theorem dL_law_23 : decode cL_law 23 = .ok (.astore 4, 2) := by decide +kernel
theorem dL_law_25 : decode cL_law 25 = .ok (.iconst 0, 1) := by decide +kernel
theorem dL_law_26 : decode cL_law 26 = .ok (.istore 5, 2) := by decide +kernel
theorem dL_law_28 : decode cL_law 28 = .ok (.iload 5, 2) := by decide +kernel
theorem dL_law_30 : decode cL_law 30 = .ok (.aload_n 0, 1) := by decide +kernel
theorem dL_law_31 : decode cL_law 31 = .ok (.arraylength, 1) := by decide +kernel
theorem dL_law_32 : decode cL_law 32 = .ok (.bipush 6, 2) := by decide +kernel
theorem dL_law_34 : decode cL_law 34 = .ok (.isub, 1) := by decide +kernel
theorem dL_law_35 : decode cL_law 35 = .ok (.if_icmp .gt 2218, 3) := by decide +kernel
theorem dL_law_38 : decode cL_law 38 = .ok (.aload_n 0, 1) := by decide +kernel
theorem dL_law_39 : decode cL_law 39 = .ok (.iload 5, 2) := by decide +kernel
theorem dL_law_41 : decode cL_law 41 = .ok (.iaload, 1) := by decide +kernel
theorem dL_law_42 : decode cL_law 42 = .ok (.bipush 63, 2) := by decide +kernel
theorem dL_law_44 : decode cL_law 44 = .ok (.iand, 1) := by decide +kernel
theorem dL_law_45 : decode cL_law 45 = .ok (.tableswitch 2202 0 32 #[147, 227, 318, 374, 466, 546, 602, 698, 766, 834, 890, 946, 1002, 1058, 1102, 1193, 1249, 1312, 1368, 1424, 1528, 1584, 1652, 1720, 1800, 1856, 1912, 1968, 2031, 2044, 2058, 2124, 2189], 147) := by decide +kernel
theorem dL_law_192 : decode cL_law 192 = .ok (.aload_n 1, 1) := by decide +kernel
theorem dL_law_193 : decode cL_law 193 = .ok (.aload_n 0, 1) := by decide +kernel
theorem dL_law_194 : decode cL_law 194 = .ok (.iload 5, 2) := by decide +kernel
theorem dL_law_196 : decode cL_law 196 = .ok (.iconst 1, 1) := by decide +kernel
theorem dL_law_197 : decode cL_law 197 = .ok (.iadd, 1) := by decide +kernel
theorem dL_law_198 : decode cL_law 198 = .ok (.iaload, 1) := by decide +kernel
theorem dL_law_199 : decode cL_law 199 = .ok (.aload_n 0, 1) := by decide +kernel
theorem dL_law_200 : decode cL_law 200 = .ok (.iload 5, 2) := by decide +kernel
theorem dL_law_202 : decode cL_law 202 = .ok (.iconst 2, 1) := by decide +kernel
theorem dL_law_203 : decode cL_law 203 = .ok (.iadd, 1) := by decide +kernel
theorem dL_law_204 : decode cL_law 204 = .ok (.iaload, 1) := by decide +kernel
theorem dL_law_205 : decode cL_law 205 = .ok (.aload_n 0, 1) := by decide +kernel
theorem dL_law_206 : decode cL_law 206 = .ok (.iload 5, 2) := by decide +kernel
theorem dL_law_208 : decode cL_law 208 = .ok (.iconst 3, 1) := by decide +kernel
theorem dL_law_209 : decode cL_law 209 = .ok (.iadd, 1) := by decide +kernel
theorem dL_law_210 : decode cL_law 210 = .ok (.iaload, 1) := by decide +kernel
theorem dL_law_211 : decode cL_law 211 = .ok (.aload_n 3, 1) := by decide +kernel
theorem dL_law_212 : decode cL_law 212 = .ok (.invokestatic 128, 3) := by decide +kernel
theorem dL_law_215 : decode cL_law 215 = .ok (.istore 6, 2) := by decide +kernel
theorem dL_law_217 : decode cL_law 217 = .ok (.aload_n 2, 1) := by decide +kernel
theorem dL_law_218 : decode cL_law 218 = .ok (.aload_n 0, 1) := by decide +kernel
theorem dL_law_219 : decode cL_law 219 = .ok (.iload 5, 2) := by decide +kernel
theorem dL_law_221 : decode cL_law 221 = .ok (.iconst 1, 1) := by decide +kernel
theorem dL_law_222 : decode cL_law 222 = .ok (.iadd, 1) := by decide +kernel
theorem dL_law_223 : decode cL_law 223 = .ok (.iaload, 1) := by decide +kernel
theorem dL_law_224 : decode cL_law 224 = .ok (.aload_n 0, 1) := by decide +kernel
theorem dL_law_225 : decode cL_law 225 = .ok (.iload 5, 2) := by decide +kernel
theorem dL_law_227 : decode cL_law 227 = .ok (.iconst 2, 1) := by decide +kernel
theorem dL_law_228 : decode cL_law 228 = .ok (.iadd, 1) := by decide +kernel
theorem dL_law_229 : decode cL_law 229 = .ok (.iaload, 1) := by decide +kernel
theorem dL_law_230 : decode cL_law 230 = .ok (.aload_n 0, 1) := by decide +kernel
theorem dL_law_231 : decode cL_law 231 = .ok (.iload 5, 2) := by decide +kernel
theorem dL_law_233 : decode cL_law 233 = .ok (.iconst 3, 1) := by decide +kernel
theorem dL_law_234 : decode cL_law 234 = .ok (.iadd, 1) := by decide +kernel
theorem dL_law_235 : decode cL_law 235 = .ok (.iaload, 1) := by decide +kernel
theorem dL_law_236 : decode cL_law 236 = .ok (.invokevirtual 133, 3) := by decide +kernel
theorem dL_law_239 : decode cL_law 239 = .ok (.istore 7, 2) := by decide +kernel
theorem dL_law_241 : decode cL_law 241 = .ok (.aload_n 2, 1) := by decide +kernel
theorem dL_law_242 : decode cL_law 242 = .ok (.invokevirtual 134, 3) := by decide +kernel
theorem dL_law_245 : decode cL_law 245 = .ok (.iload 6, 2) := by decide +kernel
theorem dL_law_247 : decode cL_law 247 = .ok (.if_icmp .eq 5, 3) := by decide +kernel
theorem dL_law_250 : decode cL_law 250 = .ok (.iconst 0, 1) := by decide +kernel
theorem dL_law_251 : decode cL_law 251 = .ok (.ireturn, 1) := by decide +kernel
theorem dL_law_252 : decode cL_law 252 = .ok (.iload 6, 2) := by decide +kernel
theorem dL_law_254 : decode cL_law 254 = .ok (.ifCond .ne 15, 3) := by decide +kernel
theorem dL_law_257 : decode cL_law 257 = .ok (.aload_n 3, 1) := by decide +kernel
theorem dL_law_258 : decode cL_law 258 = .ok (.iconst 0, 1) := by decide +kernel
theorem dL_law_259 : decode cL_law 259 = .ok (.laload, 1) := by decide +kernel
theorem dL_law_260 : decode cL_law 260 = .ok (.iload 7, 2) := by decide +kernel
theorem dL_law_262 : decode cL_law 262 = .ok (.i2l, 1) := by decide +kernel
theorem dL_law_263 : decode cL_law 263 = .ok (.lcmp, 1) := by decide +kernel
theorem dL_law_264 : decode cL_law 264 = .ok (.ifCond .eq 5, 3) := by decide +kernel
theorem dL_law_267 : decode cL_law 267 = .ok (.iconst 0, 1) := by decide +kernel
theorem dL_law_268 : decode cL_law 268 = .ok (.ireturn, 1) := by decide +kernel
theorem dL_law_269 : decode cL_law 269 = .ok (.goto 1978, 3) := by decide +kernel
theorem dL_law_272 : decode cL_law 272 = .ok (.aload_n 1, 1) := by decide +kernel
theorem dL_law_273 : decode cL_law 273 = .ok (.aload_n 0, 1) := by decide +kernel
theorem dL_law_274 : decode cL_law 274 = .ok (.iload 5, 2) := by decide +kernel
theorem dL_law_276 : decode cL_law 276 = .ok (.iconst 1, 1) := by decide +kernel
theorem dL_law_277 : decode cL_law 277 = .ok (.iadd, 1) := by decide +kernel
theorem dL_law_278 : decode cL_law 278 = .ok (.iaload, 1) := by decide +kernel
theorem dL_law_279 : decode cL_law 279 = .ok (.aload_n 0, 1) := by decide +kernel
theorem dL_law_280 : decode cL_law 280 = .ok (.iload 5, 2) := by decide +kernel
theorem dL_law_282 : decode cL_law 282 = .ok (.iconst 2, 1) := by decide +kernel
theorem dL_law_283 : decode cL_law 283 = .ok (.iadd, 1) := by decide +kernel
theorem dL_law_284 : decode cL_law 284 = .ok (.iaload, 1) := by decide +kernel
theorem dL_law_285 : decode cL_law 285 = .ok (.ifCond .eq 7, 3) := by decide +kernel
theorem dL_law_288 : decode cL_law 288 = .ok (.iconst 1, 1) := by decide +kernel
theorem dL_law_289 : decode cL_law 289 = .ok (.goto 4, 3) := by decide +kernel
theorem dL_law_292 : decode cL_law 292 = .ok (.iconst 0, 1) := by decide +kernel
theorem dL_law_293 : decode cL_law 293 = .ok (.aload_n 3, 1) := by decide +kernel
theorem dL_law_294 : decode cL_law 294 = .ok (.invokestatic 137, 3) := by decide +kernel
theorem dL_law_297 : decode cL_law 297 = .ok (.istore 6, 2) := by decide +kernel
theorem dL_law_299 : decode cL_law 299 = .ok (.aload_n 2, 1) := by decide +kernel
theorem dL_law_300 : decode cL_law 300 = .ok (.aload_n 0, 1) := by decide +kernel
theorem dL_law_301 : decode cL_law 301 = .ok (.iload 5, 2) := by decide +kernel
theorem dL_law_303 : decode cL_law 303 = .ok (.iconst 1, 1) := by decide +kernel
theorem dL_law_304 : decode cL_law 304 = .ok (.iadd, 1) := by decide +kernel
theorem dL_law_305 : decode cL_law 305 = .ok (.iaload, 1) := by decide +kernel
theorem dL_law_306 : decode cL_law 306 = .ok (.aload_n 0, 1) := by decide +kernel
theorem dL_law_307 : decode cL_law 307 = .ok (.iload 5, 2) := by decide +kernel
theorem dL_law_309 : decode cL_law 309 = .ok (.iconst 2, 1) := by decide +kernel
theorem dL_law_310 : decode cL_law 310 = .ok (.iadd, 1) := by decide +kernel
theorem dL_law_311 : decode cL_law 311 = .ok (.iaload, 1) := by decide +kernel
theorem dL_law_312 : decode cL_law 312 = .ok (.ifCond .eq 7, 3) := by decide +kernel
theorem dL_law_315 : decode cL_law 315 = .ok (.iconst 1, 1) := by decide +kernel
theorem dL_law_316 : decode cL_law 316 = .ok (.goto 4, 3) := by decide +kernel
theorem dL_law_319 : decode cL_law 319 = .ok (.iconst 0, 1) := by decide +kernel
theorem dL_law_320 : decode cL_law 320 = .ok (.invokevirtual 140, 3) := by decide +kernel
theorem dL_law_323 : decode cL_law 323 = .ok (.istore 7, 2) := by decide +kernel
theorem dL_law_325 : decode cL_law 325 = .ok (.aload_n 2, 1) := by decide +kernel
theorem dL_law_326 : decode cL_law 326 = .ok (.invokevirtual 134, 3) := by decide +kernel
theorem dL_law_329 : decode cL_law 329 = .ok (.iload 6, 2) := by decide +kernel
theorem dL_law_331 : decode cL_law 331 = .ok (.if_icmp .eq 5, 3) := by decide +kernel
theorem dL_law_334 : decode cL_law 334 = .ok (.iconst 0, 1) := by decide +kernel
theorem dL_law_335 : decode cL_law 335 = .ok (.ireturn, 1) := by decide +kernel
theorem dL_law_336 : decode cL_law 336 = .ok (.iload 6, 2) := by decide +kernel
theorem dL_law_338 : decode cL_law 338 = .ok (.ifCond .ne 22, 3) := by decide +kernel
theorem dL_law_341 : decode cL_law 341 = .ok (.aload_n 3, 1) := by decide +kernel
theorem dL_law_342 : decode cL_law 342 = .ok (.iconst 0, 1) := by decide +kernel
theorem dL_law_343 : decode cL_law 343 = .ok (.laload, 1) := by decide +kernel
theorem dL_law_344 : decode cL_law 344 = .ok (.iload 7, 2) := by decide +kernel
theorem dL_law_346 : decode cL_law 346 = .ok (.ifCond .eq 7, 3) := by decide +kernel
theorem dL_law_349 : decode cL_law 349 = .ok (.lconst 1, 1) := by decide +kernel
theorem dL_law_350 : decode cL_law 350 = .ok (.goto 4, 3) := by decide +kernel
theorem dL_law_353 : decode cL_law 353 = .ok (.lconst 0, 1) := by decide +kernel
theorem dL_law_354 : decode cL_law 354 = .ok (.lcmp, 1) := by decide +kernel
theorem dL_law_355 : decode cL_law 355 = .ok (.ifCond .eq 5, 3) := by decide +kernel
theorem dL_law_358 : decode cL_law 358 = .ok (.iconst 0, 1) := by decide +kernel
theorem dL_law_359 : decode cL_law 359 = .ok (.ireturn, 1) := by decide +kernel
theorem dL_law_360 : decode cL_law 360 = .ok (.goto 1887, 3) := by decide +kernel
theorem dL_law_363 : decode cL_law 363 = .ok (.aload_n 1, 1) := by decide +kernel
theorem dL_law_364 : decode cL_law 364 = .ok (.aload_n 0, 1) := by decide +kernel
theorem dL_law_365 : decode cL_law 365 = .ok (.iload 5, 2) := by decide +kernel
theorem dL_law_367 : decode cL_law 367 = .ok (.iconst 1, 1) := by decide +kernel
theorem dL_law_368 : decode cL_law 368 = .ok (.iadd, 1) := by decide +kernel
theorem dL_law_369 : decode cL_law 369 = .ok (.iaload, 1) := by decide +kernel
theorem dL_law_370 : decode cL_law 370 = .ok (.aload_n 3, 1) := by decide +kernel
theorem dL_law_371 : decode cL_law 371 = .ok (.invokestatic 141, 3) := by decide +kernel
theorem dL_law_374 : decode cL_law 374 = .ok (.istore 6, 2) := by decide +kernel
theorem dL_law_376 : decode cL_law 376 = .ok (.aload_n 2, 1) := by decide +kernel
theorem dL_law_377 : decode cL_law 377 = .ok (.aload_n 0, 1) := by decide +kernel
theorem dL_law_378 : decode cL_law 378 = .ok (.iload 5, 2) := by decide +kernel
theorem dL_law_380 : decode cL_law 380 = .ok (.iconst 1, 1) := by decide +kernel
theorem dL_law_381 : decode cL_law 381 = .ok (.iadd, 1) := by decide +kernel
theorem dL_law_382 : decode cL_law 382 = .ok (.iaload, 1) := by decide +kernel
theorem dL_law_383 : decode cL_law 383 = .ok (.invokevirtual 144, 3) := by decide +kernel
theorem dL_law_386 : decode cL_law 386 = .ok (.istore 7, 2) := by decide +kernel
theorem dL_law_388 : decode cL_law 388 = .ok (.aload_n 2, 1) := by decide +kernel
theorem dL_law_389 : decode cL_law 389 = .ok (.invokevirtual 134, 3) := by decide +kernel
theorem dL_law_392 : decode cL_law 392 = .ok (.iload 6, 2) := by decide +kernel
theorem dL_law_394 : decode cL_law 394 = .ok (.if_icmp .eq 5, 3) := by decide +kernel
theorem dL_law_397 : decode cL_law 397 = .ok (.iconst 0, 1) := by decide +kernel
theorem dL_law_398 : decode cL_law 398 = .ok (.ireturn, 1) := by decide +kernel
theorem dL_law_399 : decode cL_law 399 = .ok (.iload 6, 2) := by decide +kernel
theorem dL_law_401 : decode cL_law 401 = .ok (.ifCond .ne 15, 3) := by decide +kernel
theorem dL_law_404 : decode cL_law 404 = .ok (.aload_n 3, 1) := by decide +kernel
theorem dL_law_405 : decode cL_law 405 = .ok (.iconst 0, 1) := by decide +kernel
theorem dL_law_406 : decode cL_law 406 = .ok (.laload, 1) := by decide +kernel
theorem dL_law_407 : decode cL_law 407 = .ok (.iload 7, 2) := by decide +kernel
theorem dL_law_409 : decode cL_law 409 = .ok (.i2l, 1) := by decide +kernel
theorem dL_law_410 : decode cL_law 410 = .ok (.lcmp, 1) := by decide +kernel
theorem dL_law_411 : decode cL_law 411 = .ok (.ifCond .eq 5, 3) := by decide +kernel
theorem dL_law_414 : decode cL_law 414 = .ok (.iconst 0, 1) := by decide +kernel
theorem dL_law_415 : decode cL_law 415 = .ok (.ireturn, 1) := by decide +kernel
theorem dL_law_416 : decode cL_law 416 = .ok (.goto 1831, 3) := by decide +kernel
theorem dL_law_419 : decode cL_law 419 = .ok (.aload_n 1, 1) := by decide +kernel
theorem dL_law_420 : decode cL_law 420 = .ok (.aload_n 0, 1) := by decide +kernel
theorem dL_law_421 : decode cL_law 421 = .ok (.iload 5, 2) := by decide +kernel
theorem dL_law_423 : decode cL_law 423 = .ok (.iconst 1, 1) := by decide +kernel
theorem dL_law_424 : decode cL_law 424 = .ok (.iadd, 1) := by decide +kernel
theorem dL_law_425 : decode cL_law 425 = .ok (.iaload, 1) := by decide +kernel
theorem dL_law_426 : decode cL_law 426 = .ok (.aload_n 0, 1) := by decide +kernel
theorem dL_law_427 : decode cL_law 427 = .ok (.iload 5, 2) := by decide +kernel
theorem dL_law_429 : decode cL_law 429 = .ok (.iconst 2, 1) := by decide +kernel
theorem dL_law_430 : decode cL_law 430 = .ok (.iadd, 1) := by decide +kernel
theorem dL_law_431 : decode cL_law 431 = .ok (.iaload, 1) := by decide +kernel
theorem dL_law_432 : decode cL_law 432 = .ok (.aload_n 0, 1) := by decide +kernel
theorem dL_law_433 : decode cL_law 433 = .ok (.iload 5, 2) := by decide +kernel
theorem dL_law_435 : decode cL_law 435 = .ok (.iconst 3, 1) := by decide +kernel
theorem dL_law_436 : decode cL_law 436 = .ok (.iadd, 1) := by decide +kernel
theorem dL_law_437 : decode cL_law 437 = .ok (.iaload, 1) := by decide +kernel
theorem dL_law_438 : decode cL_law 438 = .ok (.aload_n 0, 1) := by decide +kernel
theorem dL_law_439 : decode cL_law 439 = .ok (.iload 5, 2) := by decide +kernel
theorem dL_law_441 : decode cL_law 441 = .ok (.iconst 4, 1) := by decide +kernel
theorem dL_law_442 : decode cL_law 442 = .ok (.iadd, 1) := by decide +kernel
theorem dL_law_443 : decode cL_law 443 = .ok (.iaload, 1) := by decide +kernel
theorem dL_law_444 : decode cL_law 444 = .ok (.aload_n 3, 1) := by decide +kernel
theorem dL_law_445 : decode cL_law 445 = .ok (.invokestatic 145, 3) := by decide +kernel
theorem dL_law_448 : decode cL_law 448 = .ok (.istore 6, 2) := by decide +kernel
theorem dL_law_450 : decode cL_law 450 = .ok (.aload_n 2, 1) := by decide +kernel
theorem dL_law_451 : decode cL_law 451 = .ok (.aload_n 0, 1) := by decide +kernel
theorem dL_law_452 : decode cL_law 452 = .ok (.iload 5, 2) := by decide +kernel
theorem dL_law_454 : decode cL_law 454 = .ok (.iconst 1, 1) := by decide +kernel
theorem dL_law_455 : decode cL_law 455 = .ok (.iadd, 1) := by decide +kernel
theorem dL_law_456 : decode cL_law 456 = .ok (.iaload, 1) := by decide +kernel
theorem dL_law_457 : decode cL_law 457 = .ok (.aload_n 0, 1) := by decide +kernel
theorem dL_law_458 : decode cL_law 458 = .ok (.iload 5, 2) := by decide +kernel
theorem dL_law_460 : decode cL_law 460 = .ok (.iconst 2, 1) := by decide +kernel
theorem dL_law_461 : decode cL_law 461 = .ok (.iadd, 1) := by decide +kernel
theorem dL_law_462 : decode cL_law 462 = .ok (.iaload, 1) := by decide +kernel
theorem dL_law_463 : decode cL_law 463 = .ok (.aload_n 0, 1) := by decide +kernel
theorem dL_law_464 : decode cL_law 464 = .ok (.iload 5, 2) := by decide +kernel
theorem dL_law_466 : decode cL_law 466 = .ok (.iconst 3, 1) := by decide +kernel
theorem dL_law_467 : decode cL_law 467 = .ok (.iadd, 1) := by decide +kernel
theorem dL_law_468 : decode cL_law 468 = .ok (.iaload, 1) := by decide +kernel
theorem dL_law_469 : decode cL_law 469 = .ok (.aload_n 0, 1) := by decide +kernel
theorem dL_law_470 : decode cL_law 470 = .ok (.iload 5, 2) := by decide +kernel
theorem dL_law_472 : decode cL_law 472 = .ok (.iconst 4, 1) := by decide +kernel
theorem dL_law_473 : decode cL_law 473 = .ok (.iadd, 1) := by decide +kernel
theorem dL_law_474 : decode cL_law 474 = .ok (.iaload, 1) := by decide +kernel
theorem dL_law_475 : decode cL_law 475 = .ok (.invokevirtual 148, 3) := by decide +kernel
theorem dL_law_478 : decode cL_law 478 = .ok (.istore 7, 2) := by decide +kernel
theorem dL_law_480 : decode cL_law 480 = .ok (.aload_n 2, 1) := by decide +kernel
theorem dL_law_481 : decode cL_law 481 = .ok (.invokevirtual 134, 3) := by decide +kernel
theorem dL_law_484 : decode cL_law 484 = .ok (.iload 6, 2) := by decide +kernel
theorem dL_law_486 : decode cL_law 486 = .ok (.if_icmp .eq 5, 3) := by decide +kernel
theorem dL_law_489 : decode cL_law 489 = .ok (.iconst 0, 1) := by decide +kernel
theorem dL_law_490 : decode cL_law 490 = .ok (.ireturn, 1) := by decide +kernel
theorem dL_law_491 : decode cL_law 491 = .ok (.iload 6, 2) := by decide +kernel
theorem dL_law_493 : decode cL_law 493 = .ok (.ifCond .ne 15, 3) := by decide +kernel
theorem dL_law_496 : decode cL_law 496 = .ok (.aload_n 3, 1) := by decide +kernel
theorem dL_law_497 : decode cL_law 497 = .ok (.iconst 0, 1) := by decide +kernel
theorem dL_law_498 : decode cL_law 498 = .ok (.laload, 1) := by decide +kernel
theorem dL_law_499 : decode cL_law 499 = .ok (.iload 7, 2) := by decide +kernel
theorem dL_law_501 : decode cL_law 501 = .ok (.i2l, 1) := by decide +kernel
theorem dL_law_502 : decode cL_law 502 = .ok (.lcmp, 1) := by decide +kernel
theorem dL_law_503 : decode cL_law 503 = .ok (.ifCond .eq 5, 3) := by decide +kernel
theorem dL_law_506 : decode cL_law 506 = .ok (.iconst 0, 1) := by decide +kernel
theorem dL_law_507 : decode cL_law 507 = .ok (.ireturn, 1) := by decide +kernel
theorem dL_law_508 : decode cL_law 508 = .ok (.goto 1739, 3) := by decide +kernel
theorem dL_law_511 : decode cL_law 511 = .ok (.aload_n 1, 1) := by decide +kernel
theorem dL_law_512 : decode cL_law 512 = .ok (.aload_n 0, 1) := by decide +kernel
theorem dL_law_513 : decode cL_law 513 = .ok (.iload 5, 2) := by decide +kernel
theorem dL_law_515 : decode cL_law 515 = .ok (.iconst 1, 1) := by decide +kernel
theorem dL_law_516 : decode cL_law 516 = .ok (.iadd, 1) := by decide +kernel
theorem dL_law_517 : decode cL_law 517 = .ok (.iaload, 1) := by decide +kernel
theorem dL_law_518 : decode cL_law 518 = .ok (.aload_n 0, 1) := by decide +kernel
theorem dL_law_519 : decode cL_law 519 = .ok (.iload 5, 2) := by decide +kernel
theorem dL_law_521 : decode cL_law 521 = .ok (.iconst 2, 1) := by decide +kernel
theorem dL_law_522 : decode cL_law 522 = .ok (.iadd, 1) := by decide +kernel
theorem dL_law_523 : decode cL_law 523 = .ok (.iaload, 1) := by decide +kernel
theorem dL_law_524 : decode cL_law 524 = .ok (.aload_n 0, 1) := by decide +kernel
theorem dL_law_525 : decode cL_law 525 = .ok (.iload 5, 2) := by decide +kernel
theorem dL_law_527 : decode cL_law 527 = .ok (.iconst 3, 1) := by decide +kernel
theorem dL_law_528 : decode cL_law 528 = .ok (.iadd, 1) := by decide +kernel
theorem dL_law_529 : decode cL_law 529 = .ok (.iaload, 1) := by decide +kernel
theorem dL_law_530 : decode cL_law 530 = .ok (.aload_n 3, 1) := by decide +kernel
theorem dL_law_531 : decode cL_law 531 = .ok (.invokestatic 149, 3) := by decide +kernel
theorem dL_law_534 : decode cL_law 534 = .ok (.istore 6, 2) := by decide +kernel
theorem dL_law_536 : decode cL_law 536 = .ok (.aload_n 2, 1) := by decide +kernel
theorem dL_law_537 : decode cL_law 537 = .ok (.aload_n 0, 1) := by decide +kernel
theorem dL_law_538 : decode cL_law 538 = .ok (.iload 5, 2) := by decide +kernel
theorem dL_law_540 : decode cL_law 540 = .ok (.iconst 1, 1) := by decide +kernel
theorem dL_law_541 : decode cL_law 541 = .ok (.iadd, 1) := by decide +kernel
theorem dL_law_542 : decode cL_law 542 = .ok (.iaload, 1) := by decide +kernel
theorem dL_law_543 : decode cL_law 543 = .ok (.aload_n 0, 1) := by decide +kernel
theorem dL_law_544 : decode cL_law 544 = .ok (.iload 5, 2) := by decide +kernel
theorem dL_law_546 : decode cL_law 546 = .ok (.iconst 2, 1) := by decide +kernel
theorem dL_law_547 : decode cL_law 547 = .ok (.iadd, 1) := by decide +kernel
theorem dL_law_548 : decode cL_law 548 = .ok (.iaload, 1) := by decide +kernel
theorem dL_law_549 : decode cL_law 549 = .ok (.aload_n 0, 1) := by decide +kernel
theorem dL_law_550 : decode cL_law 550 = .ok (.iload 5, 2) := by decide +kernel
theorem dL_law_552 : decode cL_law 552 = .ok (.iconst 3, 1) := by decide +kernel
theorem dL_law_553 : decode cL_law 553 = .ok (.iadd, 1) := by decide +kernel
theorem dL_law_554 : decode cL_law 554 = .ok (.iaload, 1) := by decide +kernel
theorem dL_law_555 : decode cL_law 555 = .ok (.invokevirtual 151, 3) := by decide +kernel
theorem dL_law_558 : decode cL_law 558 = .ok (.istore 7, 2) := by decide +kernel
theorem dL_law_560 : decode cL_law 560 = .ok (.aload_n 2, 1) := by decide +kernel
theorem dL_law_561 : decode cL_law 561 = .ok (.invokevirtual 134, 3) := by decide +kernel
theorem dL_law_564 : decode cL_law 564 = .ok (.iload 6, 2) := by decide +kernel
theorem dL_law_566 : decode cL_law 566 = .ok (.if_icmp .eq 5, 3) := by decide +kernel
theorem dL_law_569 : decode cL_law 569 = .ok (.iconst 0, 1) := by decide +kernel
theorem dL_law_570 : decode cL_law 570 = .ok (.ireturn, 1) := by decide +kernel
theorem dL_law_571 : decode cL_law 571 = .ok (.iload 6, 2) := by decide +kernel
theorem dL_law_573 : decode cL_law 573 = .ok (.ifCond .ne 15, 3) := by decide +kernel
theorem dL_law_576 : decode cL_law 576 = .ok (.aload_n 3, 1) := by decide +kernel
theorem dL_law_577 : decode cL_law 577 = .ok (.iconst 0, 1) := by decide +kernel
theorem dL_law_578 : decode cL_law 578 = .ok (.laload, 1) := by decide +kernel
theorem dL_law_579 : decode cL_law 579 = .ok (.iload 7, 2) := by decide +kernel
theorem dL_law_581 : decode cL_law 581 = .ok (.i2l, 1) := by decide +kernel
theorem dL_law_582 : decode cL_law 582 = .ok (.lcmp, 1) := by decide +kernel
theorem dL_law_583 : decode cL_law 583 = .ok (.ifCond .eq 5, 3) := by decide +kernel
theorem dL_law_586 : decode cL_law 586 = .ok (.iconst 0, 1) := by decide +kernel
theorem dL_law_587 : decode cL_law 587 = .ok (.ireturn, 1) := by decide +kernel
theorem dL_law_588 : decode cL_law 588 = .ok (.goto 1659, 3) := by decide +kernel
theorem dL_law_591 : decode cL_law 591 = .ok (.aload_n 1, 1) := by decide +kernel
theorem dL_law_592 : decode cL_law 592 = .ok (.aload_n 0, 1) := by decide +kernel
theorem dL_law_593 : decode cL_law 593 = .ok (.iload 5, 2) := by decide +kernel
theorem dL_law_595 : decode cL_law 595 = .ok (.iconst 1, 1) := by decide +kernel
theorem dL_law_596 : decode cL_law 596 = .ok (.iadd, 1) := by decide +kernel
theorem dL_law_597 : decode cL_law 597 = .ok (.iaload, 1) := by decide +kernel
theorem dL_law_598 : decode cL_law 598 = .ok (.aload_n 3, 1) := by decide +kernel
theorem dL_law_599 : decode cL_law 599 = .ok (.invokestatic 152, 3) := by decide +kernel
theorem dL_law_602 : decode cL_law 602 = .ok (.istore 6, 2) := by decide +kernel
theorem dL_law_604 : decode cL_law 604 = .ok (.aload_n 2, 1) := by decide +kernel
theorem dL_law_605 : decode cL_law 605 = .ok (.aload_n 0, 1) := by decide +kernel
theorem dL_law_606 : decode cL_law 606 = .ok (.iload 5, 2) := by decide +kernel
theorem dL_law_608 : decode cL_law 608 = .ok (.iconst 1, 1) := by decide +kernel
theorem dL_law_609 : decode cL_law 609 = .ok (.iadd, 1) := by decide +kernel
theorem dL_law_610 : decode cL_law 610 = .ok (.iaload, 1) := by decide +kernel
theorem dL_law_611 : decode cL_law 611 = .ok (.invokevirtual 154, 3) := by decide +kernel
theorem dL_law_614 : decode cL_law 614 = .ok (.istore 7, 2) := by decide +kernel
theorem dL_law_616 : decode cL_law 616 = .ok (.aload_n 2, 1) := by decide +kernel
theorem dL_law_617 : decode cL_law 617 = .ok (.invokevirtual 134, 3) := by decide +kernel
theorem dL_law_620 : decode cL_law 620 = .ok (.iload 6, 2) := by decide +kernel
theorem dL_law_622 : decode cL_law 622 = .ok (.if_icmp .eq 5, 3) := by decide +kernel
theorem dL_law_625 : decode cL_law 625 = .ok (.iconst 0, 1) := by decide +kernel
theorem dL_law_626 : decode cL_law 626 = .ok (.ireturn, 1) := by decide +kernel
theorem dL_law_627 : decode cL_law 627 = .ok (.iload 6, 2) := by decide +kernel
theorem dL_law_629 : decode cL_law 629 = .ok (.ifCond .ne 15, 3) := by decide +kernel
theorem dL_law_632 : decode cL_law 632 = .ok (.aload_n 3, 1) := by decide +kernel
theorem dL_law_633 : decode cL_law 633 = .ok (.iconst 0, 1) := by decide +kernel
theorem dL_law_634 : decode cL_law 634 = .ok (.laload, 1) := by decide +kernel
theorem dL_law_635 : decode cL_law 635 = .ok (.iload 7, 2) := by decide +kernel
theorem dL_law_637 : decode cL_law 637 = .ok (.i2l, 1) := by decide +kernel
theorem dL_law_638 : decode cL_law 638 = .ok (.lcmp, 1) := by decide +kernel
theorem dL_law_639 : decode cL_law 639 = .ok (.ifCond .eq 5, 3) := by decide +kernel
theorem dL_law_642 : decode cL_law 642 = .ok (.iconst 0, 1) := by decide +kernel
theorem dL_law_643 : decode cL_law 643 = .ok (.ireturn, 1) := by decide +kernel
theorem dL_law_644 : decode cL_law 644 = .ok (.goto 1603, 3) := by decide +kernel
theorem dL_law_647 : decode cL_law 647 = .ok (.aload_n 1, 1) := by decide +kernel
theorem dL_law_648 : decode cL_law 648 = .ok (.aload_n 0, 1) := by decide +kernel
theorem dL_law_649 : decode cL_law 649 = .ok (.iload 5, 2) := by decide +kernel
theorem dL_law_651 : decode cL_law 651 = .ok (.iconst 1, 1) := by decide +kernel
theorem dL_law_652 : decode cL_law 652 = .ok (.iadd, 1) := by decide +kernel
theorem dL_law_653 : decode cL_law 653 = .ok (.iaload, 1) := by decide +kernel
theorem dL_law_654 : decode cL_law 654 = .ok (.aload_n 0, 1) := by decide +kernel
theorem dL_law_655 : decode cL_law 655 = .ok (.iload 5, 2) := by decide +kernel
theorem dL_law_657 : decode cL_law 657 = .ok (.iconst 2, 1) := by decide +kernel
theorem dL_law_658 : decode cL_law 658 = .ok (.iadd, 1) := by decide +kernel
theorem dL_law_659 : decode cL_law 659 = .ok (.iaload, 1) := by decide +kernel
theorem dL_law_660 : decode cL_law 660 = .ok (.aload_n 0, 1) := by decide +kernel
theorem dL_law_661 : decode cL_law 661 = .ok (.iload 5, 2) := by decide +kernel
theorem dL_law_663 : decode cL_law 663 = .ok (.iconst 3, 1) := by decide +kernel
theorem dL_law_664 : decode cL_law 664 = .ok (.iadd, 1) := by decide +kernel
theorem dL_law_665 : decode cL_law 665 = .ok (.iaload, 1) := by decide +kernel
theorem dL_law_666 : decode cL_law 666 = .ok (.ifCond .eq 7, 3) := by decide +kernel
theorem dL_law_669 : decode cL_law 669 = .ok (.iconst 1, 1) := by decide +kernel
theorem dL_law_670 : decode cL_law 670 = .ok (.goto 4, 3) := by decide +kernel
theorem dL_law_673 : decode cL_law 673 = .ok (.iconst 0, 1) := by decide +kernel
theorem dL_law_674 : decode cL_law 674 = .ok (.aload_n 3, 1) := by decide +kernel
theorem dL_law_675 : decode cL_law 675 = .ok (.invokestatic 155, 3) := by decide +kernel
theorem dL_law_678 : decode cL_law 678 = .ok (.istore 6, 2) := by decide +kernel
theorem dL_law_680 : decode cL_law 680 = .ok (.aload_n 2, 1) := by decide +kernel
theorem dL_law_681 : decode cL_law 681 = .ok (.aload_n 0, 1) := by decide +kernel
theorem dL_law_682 : decode cL_law 682 = .ok (.iload 5, 2) := by decide +kernel
theorem dL_law_684 : decode cL_law 684 = .ok (.iconst 1, 1) := by decide +kernel
theorem dL_law_685 : decode cL_law 685 = .ok (.iadd, 1) := by decide +kernel
theorem dL_law_686 : decode cL_law 686 = .ok (.iaload, 1) := by decide +kernel
theorem dL_law_687 : decode cL_law 687 = .ok (.aload_n 0, 1) := by decide +kernel
theorem dL_law_688 : decode cL_law 688 = .ok (.iload 5, 2) := by decide +kernel
theorem dL_law_690 : decode cL_law 690 = .ok (.iconst 2, 1) := by decide +kernel
theorem dL_law_691 : decode cL_law 691 = .ok (.iadd, 1) := by decide +kernel
theorem dL_law_692 : decode cL_law 692 = .ok (.iaload, 1) := by decide +kernel
theorem dL_law_693 : decode cL_law 693 = .ok (.aload_n 0, 1) := by decide +kernel
theorem dL_law_694 : decode cL_law 694 = .ok (.iload 5, 2) := by decide +kernel
theorem dL_law_696 : decode cL_law 696 = .ok (.iconst 3, 1) := by decide +kernel
theorem dL_law_697 : decode cL_law 697 = .ok (.iadd, 1) := by decide +kernel
theorem dL_law_698 : decode cL_law 698 = .ok (.iaload, 1) := by decide +kernel
theorem dL_law_699 : decode cL_law 699 = .ok (.ifCond .eq 7, 3) := by decide +kernel
theorem dL_law_702 : decode cL_law 702 = .ok (.iconst 1, 1) := by decide +kernel
theorem dL_law_703 : decode cL_law 703 = .ok (.goto 4, 3) := by decide +kernel
theorem dL_law_706 : decode cL_law 706 = .ok (.iconst 0, 1) := by decide +kernel
theorem dL_law_707 : decode cL_law 707 = .ok (.invokevirtual 158, 3) := by decide +kernel
theorem dL_law_710 : decode cL_law 710 = .ok (.istore 7, 2) := by decide +kernel
theorem dL_law_712 : decode cL_law 712 = .ok (.aload_n 2, 1) := by decide +kernel
theorem dL_law_713 : decode cL_law 713 = .ok (.invokevirtual 134, 3) := by decide +kernel
theorem dL_law_716 : decode cL_law 716 = .ok (.iload 6, 2) := by decide +kernel
theorem dL_law_718 : decode cL_law 718 = .ok (.if_icmp .eq 5, 3) := by decide +kernel
theorem dL_law_721 : decode cL_law 721 = .ok (.iconst 0, 1) := by decide +kernel
theorem dL_law_722 : decode cL_law 722 = .ok (.ireturn, 1) := by decide +kernel
theorem dL_law_723 : decode cL_law 723 = .ok (.iload 6, 2) := by decide +kernel
theorem dL_law_725 : decode cL_law 725 = .ok (.ifCond .ne 15, 3) := by decide +kernel
theorem dL_law_728 : decode cL_law 728 = .ok (.aload_n 3, 1) := by decide +kernel
theorem dL_law_729 : decode cL_law 729 = .ok (.iconst 0, 1) := by decide +kernel
theorem dL_law_730 : decode cL_law 730 = .ok (.laload, 1) := by decide +kernel
theorem dL_law_731 : decode cL_law 731 = .ok (.iload 7, 2) := by decide +kernel
theorem dL_law_733 : decode cL_law 733 = .ok (.i2l, 1) := by decide +kernel
theorem dL_law_734 : decode cL_law 734 = .ok (.lcmp, 1) := by decide +kernel
theorem dL_law_735 : decode cL_law 735 = .ok (.ifCond .eq 5, 3) := by decide +kernel
theorem dL_law_738 : decode cL_law 738 = .ok (.iconst 0, 1) := by decide +kernel
theorem dL_law_739 : decode cL_law 739 = .ok (.ireturn, 1) := by decide +kernel
theorem dL_law_740 : decode cL_law 740 = .ok (.goto 1507, 3) := by decide +kernel
theorem dL_law_743 : decode cL_law 743 = .ok (.aload_n 1, 1) := by decide +kernel
theorem dL_law_744 : decode cL_law 744 = .ok (.aload_n 0, 1) := by decide +kernel
theorem dL_law_745 : decode cL_law 745 = .ok (.iload 5, 2) := by decide +kernel
theorem dL_law_747 : decode cL_law 747 = .ok (.iconst 1, 1) := by decide +kernel
theorem dL_law_748 : decode cL_law 748 = .ok (.iadd, 1) := by decide +kernel
theorem dL_law_749 : decode cL_law 749 = .ok (.iaload, 1) := by decide +kernel
theorem dL_law_750 : decode cL_law 750 = .ok (.aload_n 0, 1) := by decide +kernel
theorem dL_law_751 : decode cL_law 751 = .ok (.iload 5, 2) := by decide +kernel
theorem dL_law_753 : decode cL_law 753 = .ok (.iconst 2, 1) := by decide +kernel
theorem dL_law_754 : decode cL_law 754 = .ok (.iadd, 1) := by decide +kernel
theorem dL_law_755 : decode cL_law 755 = .ok (.iaload, 1) := by decide +kernel
theorem dL_law_756 : decode cL_law 756 = .ok (.aload_n 3, 1) := by decide +kernel
theorem dL_law_757 : decode cL_law 757 = .ok (.invokestatic 159, 3) := by decide +kernel
theorem dL_law_760 : decode cL_law 760 = .ok (.istore 6, 2) := by decide +kernel
theorem dL_law_762 : decode cL_law 762 = .ok (.aload_n 2, 1) := by decide +kernel
theorem dL_law_763 : decode cL_law 763 = .ok (.aload_n 0, 1) := by decide +kernel
theorem dL_law_764 : decode cL_law 764 = .ok (.iload 5, 2) := by decide +kernel
theorem dL_law_766 : decode cL_law 766 = .ok (.iconst 1, 1) := by decide +kernel
theorem dL_law_767 : decode cL_law 767 = .ok (.iadd, 1) := by decide +kernel
theorem dL_law_768 : decode cL_law 768 = .ok (.iaload, 1) := by decide +kernel
theorem dL_law_769 : decode cL_law 769 = .ok (.aload_n 0, 1) := by decide +kernel
theorem dL_law_770 : decode cL_law 770 = .ok (.iload 5, 2) := by decide +kernel
theorem dL_law_772 : decode cL_law 772 = .ok (.iconst 2, 1) := by decide +kernel
theorem dL_law_773 : decode cL_law 773 = .ok (.iadd, 1) := by decide +kernel
theorem dL_law_774 : decode cL_law 774 = .ok (.iaload, 1) := by decide +kernel
theorem dL_law_775 : decode cL_law 775 = .ok (.invokevirtual 162, 3) := by decide +kernel
theorem dL_law_778 : decode cL_law 778 = .ok (.istore 7, 2) := by decide +kernel
theorem dL_law_780 : decode cL_law 780 = .ok (.aload_n 2, 1) := by decide +kernel
theorem dL_law_781 : decode cL_law 781 = .ok (.invokevirtual 134, 3) := by decide +kernel
theorem dL_law_784 : decode cL_law 784 = .ok (.iload 6, 2) := by decide +kernel
theorem dL_law_786 : decode cL_law 786 = .ok (.if_icmp .eq 5, 3) := by decide +kernel
theorem dL_law_789 : decode cL_law 789 = .ok (.iconst 0, 1) := by decide +kernel
theorem dL_law_790 : decode cL_law 790 = .ok (.ireturn, 1) := by decide +kernel
theorem dL_law_791 : decode cL_law 791 = .ok (.iload 6, 2) := by decide +kernel
theorem dL_law_793 : decode cL_law 793 = .ok (.ifCond .ne 15, 3) := by decide +kernel
theorem dL_law_796 : decode cL_law 796 = .ok (.aload_n 3, 1) := by decide +kernel
theorem dL_law_797 : decode cL_law 797 = .ok (.iconst 0, 1) := by decide +kernel
theorem dL_law_798 : decode cL_law 798 = .ok (.laload, 1) := by decide +kernel
theorem dL_law_799 : decode cL_law 799 = .ok (.iload 7, 2) := by decide +kernel
theorem dL_law_801 : decode cL_law 801 = .ok (.i2l, 1) := by decide +kernel
