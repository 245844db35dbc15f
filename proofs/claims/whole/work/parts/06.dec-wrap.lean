theorem dL_setWork_0 : decode cL_setWork 0 = .ok (.aload 4, 2) := by decide +kernel
theorem dL_setWork_2 : decode cL_setWork 2 = .ok (.iconst 0, 1) := by decide +kernel
theorem dL_setWork_3 : decode cL_setWork 3 = .ok (.aload_n 0, 1) := by decide +kernel
theorem dL_setWork_4 : decode cL_setWork 4 = .ok (.iload_n 1, 1) := by decide +kernel
theorem dL_setWork_5 : decode cL_setWork 5 = .ok (.iload_n 2, 1) := by decide +kernel
theorem dL_setWork_6 : decode cL_setWork 6 = .ok (.iload_n 3, 1) := by decide +kernel
theorem dL_setWork_7 : decode cL_setWork 7 = .ok (.invokevirtual 7, 3) := by decide +kernel
theorem dL_setWork_10 : decode cL_setWork 10 = .ok (.i2l, 1) := by decide +kernel
theorem dL_setWork_11 : decode cL_setWork 11 = .ok (.lastore, 1) := by decide +kernel
theorem dL_setWork_12 : decode cL_setWork 12 = .ok (.goto 11, 3) := by decide +kernel
theorem dL_setWork_15 : decode cL_setWork 15 = .ok (.astore 5, 2) := by decide +kernel
theorem dL_setWork_17 : decode cL_setWork 17 = .ok (.iconst 1, 1) := by decide +kernel
theorem dL_setWork_18 : decode cL_setWork 18 = .ok (.ireturn, 1) := by decide +kernel
theorem dL_setWork_19 : decode cL_setWork 19 = .ok (.astore 5, 2) := by decide +kernel
theorem dL_setWork_21 : decode cL_setWork 21 = .ok (.iconst 2, 1) := by decide +kernel
theorem dL_setWork_22 : decode cL_setWork 22 = .ok (.ireturn, 1) := by decide +kernel
theorem dL_setWork_23 : decode cL_setWork 23 = .ok (.iconst 0, 1) := by decide +kernel
theorem dL_setWork_24 : decode cL_setWork 24 = .ok (.ireturn, 1) := by decide +kernel
theorem dL_ask_0 : decode cL_ask 0 = .ok (.aload_n 3, 1) := by decide +kernel
theorem dL_ask_1 : decode cL_ask 1 = .ok (.iconst 0, 1) := by decide +kernel
theorem dL_ask_2 : decode cL_ask 2 = .ok (.aload_n 0, 1) := by decide +kernel
theorem dL_ask_3 : decode cL_ask 3 = .ok (.iload_n 1, 1) := by decide +kernel
theorem dL_ask_4 : decode cL_ask 4 = .ok (.iload_n 2, 1) := by decide +kernel
theorem dL_ask_5 : decode cL_ask 5 = .ok (.invokevirtual 17, 3) := by decide +kernel
theorem dL_ask_8 : decode cL_ask 8 = .ok (.i2l, 1) := by decide +kernel
theorem dL_ask_9 : decode cL_ask 9 = .ok (.lastore, 1) := by decide +kernel
theorem dL_ask_10 : decode cL_ask 10 = .ok (.goto 15, 3) := by decide +kernel
theorem dL_ask_13 : decode cL_ask 13 = .ok (.astore 4, 2) := by decide +kernel
theorem dL_ask_15 : decode cL_ask 15 = .ok (.iconst 1, 1) := by decide +kernel
theorem dL_ask_16 : decode cL_ask 16 = .ok (.ireturn, 1) := by decide +kernel
theorem dL_ask_17 : decode cL_ask 17 = .ok (.astore 4, 2) := by decide +kernel
theorem dL_ask_19 : decode cL_ask 19 = .ok (.iconst 2, 1) := by decide +kernel
theorem dL_ask_20 : decode cL_ask 20 = .ok (.ireturn, 1) := by decide +kernel
theorem dL_ask_21 : decode cL_ask 21 = .ok (.astore 4, 2) := by decide +kernel
theorem dL_ask_23 : decode cL_ask 23 = .ok (.iconst 3, 1) := by decide +kernel
theorem dL_ask_24 : decode cL_ask 24 = .ok (.ireturn, 1) := by decide +kernel
theorem dL_ask_25 : decode cL_ask 25 = .ok (.iconst 0, 1) := by decide +kernel
theorem dL_ask_26 : decode cL_ask 26 = .ok (.ireturn, 1) := by decide +kernel
theorem dL_setRoom_0 : decode cL_setRoom 0 = .ok (.aload 5, 2) := by decide +kernel
theorem dL_setRoom_2 : decode cL_setRoom 2 = .ok (.iconst 0, 1) := by decide +kernel
theorem dL_setRoom_3 : decode cL_setRoom 3 = .ok (.aload_n 0, 1) := by decide +kernel
theorem dL_setRoom_4 : decode cL_setRoom 4 = .ok (.iload_n 1, 1) := by decide +kernel
theorem dL_setRoom_5 : decode cL_setRoom 5 = .ok (.iload_n 2, 1) := by decide +kernel
theorem dL_setRoom_6 : decode cL_setRoom 6 = .ok (.iload_n 3, 1) := by decide +kernel
theorem dL_setRoom_7 : decode cL_setRoom 7 = .ok (.iload 4, 2) := by decide +kernel
theorem dL_setRoom_9 : decode cL_setRoom 9 = .ok (.invokevirtual 23, 3) := by decide +kernel
theorem dL_setRoom_12 : decode cL_setRoom 12 = .ok (.i2l, 1) := by decide +kernel
theorem dL_setRoom_13 : decode cL_setRoom 13 = .ok (.lastore, 1) := by decide +kernel
theorem dL_setRoom_14 : decode cL_setRoom 14 = .ok (.goto 11, 3) := by decide +kernel
theorem dL_setRoom_17 : decode cL_setRoom 17 = .ok (.astore 6, 2) := by decide +kernel
theorem dL_setRoom_19 : decode cL_setRoom 19 = .ok (.iconst 1, 1) := by decide +kernel
theorem dL_setRoom_20 : decode cL_setRoom 20 = .ok (.ireturn, 1) := by decide +kernel
theorem dL_setRoom_21 : decode cL_setRoom 21 = .ok (.astore 6, 2) := by decide +kernel
theorem dL_setRoom_23 : decode cL_setRoom 23 = .ok (.iconst 2, 1) := by decide +kernel
theorem dL_setRoom_24 : decode cL_setRoom 24 = .ok (.ireturn, 1) := by decide +kernel
theorem dL_setRoom_25 : decode cL_setRoom 25 = .ok (.iconst 0, 1) := by decide +kernel
theorem dL_setRoom_26 : decode cL_setRoom 26 = .ok (.ireturn, 1) := by decide +kernel
theorem dL_call_0 : decode cL_call 0 = .ok (.aload_n 3, 1) := by decide +kernel
theorem dL_call_1 : decode cL_call 1 = .ok (.iconst 0, 1) := by decide +kernel
theorem dL_call_2 : decode cL_call 2 = .ok (.aload_n 0, 1) := by decide +kernel
theorem dL_call_3 : decode cL_call 3 = .ok (.iload_n 1, 1) := by decide +kernel
theorem dL_call_4 : decode cL_call 4 = .ok (.iload_n 2, 1) := by decide +kernel
theorem dL_call_5 : decode cL_call 5 = .ok (.invokevirtual 27, 3) := by decide +kernel
theorem dL_call_8 : decode cL_call 8 = .ok (.i2l, 1) := by decide +kernel
theorem dL_call_9 : decode cL_call 9 = .ok (.lastore, 1) := by decide +kernel
theorem dL_call_10 : decode cL_call 10 = .ok (.goto 15, 3) := by decide +kernel
theorem dL_call_13 : decode cL_call 13 = .ok (.astore 4, 2) := by decide +kernel
theorem dL_call_15 : decode cL_call 15 = .ok (.iconst 1, 1) := by decide +kernel
theorem dL_call_16 : decode cL_call 16 = .ok (.ireturn, 1) := by decide +kernel
theorem dL_call_17 : decode cL_call 17 = .ok (.astore 4, 2) := by decide +kernel
theorem dL_call_19 : decode cL_call 19 = .ok (.iconst 2, 1) := by decide +kernel
theorem dL_call_20 : decode cL_call 20 = .ok (.ireturn, 1) := by decide +kernel
theorem dL_call_21 : decode cL_call 21 = .ok (.astore 4, 2) := by decide +kernel
theorem dL_call_23 : decode cL_call 23 = .ok (.iconst 3, 1) := by decide +kernel
theorem dL_call_24 : decode cL_call 24 = .ok (.ireturn, 1) := by decide +kernel
theorem dL_call_25 : decode cL_call 25 = .ok (.iconst 0, 1) := by decide +kernel
theorem dL_call_26 : decode cL_call 26 = .ok (.ireturn, 1) := by decide +kernel
theorem dL_cancel_0 : decode cL_cancel 0 = .ok (.aload_n 2, 1) := by decide +kernel
theorem dL_cancel_1 : decode cL_cancel 1 = .ok (.iconst 0, 1) := by decide +kernel
theorem dL_cancel_2 : decode cL_cancel 2 = .ok (.aload_n 0, 1) := by decide +kernel
theorem dL_cancel_3 : decode cL_cancel 3 = .ok (.iload_n 1, 1) := by decide +kernel
theorem dL_cancel_4 : decode cL_cancel 4 = .ok (.invokevirtual 30, 3) := by decide +kernel
theorem dL_cancel_7 : decode cL_cancel 7 = .ok (.i2l, 1) := by decide +kernel
theorem dL_cancel_8 : decode cL_cancel 8 = .ok (.lastore, 1) := by decide +kernel
theorem dL_cancel_9 : decode cL_cancel 9 = .ok (.goto 9, 3) := by decide +kernel
theorem dL_cancel_12 : decode cL_cancel 12 = .ok (.astore_n 3, 1) := by decide +kernel
theorem dL_cancel_13 : decode cL_cancel 13 = .ok (.iconst 1, 1) := by decide +kernel
theorem dL_cancel_14 : decode cL_cancel 14 = .ok (.ireturn, 1) := by decide +kernel
theorem dL_cancel_15 : decode cL_cancel 15 = .ok (.astore_n 3, 1) := by decide +kernel
theorem dL_cancel_16 : decode cL_cancel 16 = .ok (.iconst 2, 1) := by decide +kernel
theorem dL_cancel_17 : decode cL_cancel 17 = .ok (.ireturn, 1) := by decide +kernel
theorem dL_cancel_18 : decode cL_cancel 18 = .ok (.iconst 0, 1) := by decide +kernel
theorem dL_cancel_19 : decode cL_cancel 19 = .ok (.ireturn, 1) := by decide +kernel
theorem dL_pass_0 : decode cL_pass 0 = .ok (.aload_n 2, 1) := by decide +kernel
theorem dL_pass_1 : decode cL_pass 1 = .ok (.iconst 0, 1) := by decide +kernel
theorem dL_pass_2 : decode cL_pass 2 = .ok (.aload_n 0, 1) := by decide +kernel
theorem dL_pass_3 : decode cL_pass 3 = .ok (.iload_n 1, 1) := by decide +kernel
theorem dL_pass_4 : decode cL_pass 4 = .ok (.invokevirtual 34, 3) := by decide +kernel
theorem dL_pass_7 : decode cL_pass 7 = .ok (.i2l, 1) := by decide +kernel
theorem dL_pass_8 : decode cL_pass 8 = .ok (.lastore, 1) := by decide +kernel
theorem dL_pass_9 : decode cL_pass 9 = .ok (.goto 6, 3) := by decide +kernel
theorem dL_pass_12 : decode cL_pass 12 = .ok (.astore_n 3, 1) := by decide +kernel
theorem dL_pass_13 : decode cL_pass 13 = .ok (.iconst 1, 1) := by decide +kernel
theorem dL_pass_14 : decode cL_pass 14 = .ok (.ireturn, 1) := by decide +kernel
theorem dL_pass_15 : decode cL_pass 15 = .ok (.iconst 0, 1) := by decide +kernel
theorem dL_pass_16 : decode cL_pass 16 = .ok (.ireturn, 1) := by decide +kernel
theorem dL_state_0 : decode cL_state 0 = .ok (.aload_n 2, 1) := by decide +kernel
theorem dL_state_1 : decode cL_state 1 = .ok (.iconst 0, 1) := by decide +kernel
theorem dL_state_2 : decode cL_state 2 = .ok (.aload_n 0, 1) := by decide +kernel
theorem dL_state_3 : decode cL_state 3 = .ok (.iload_n 1, 1) := by decide +kernel
theorem dL_state_4 : decode cL_state 4 = .ok (.invokevirtual 37, 3) := by decide +kernel
theorem dL_state_7 : decode cL_state 7 = .ok (.i2l, 1) := by decide +kernel
theorem dL_state_8 : decode cL_state 8 = .ok (.lastore, 1) := by decide +kernel
theorem dL_state_9 : decode cL_state 9 = .ok (.goto 6, 3) := by decide +kernel
theorem dL_state_12 : decode cL_state 12 = .ok (.astore_n 3, 1) := by decide +kernel
theorem dL_state_13 : decode cL_state 13 = .ok (.iconst 1, 1) := by decide +kernel
theorem dL_state_14 : decode cL_state 14 = .ok (.ireturn, 1) := by decide +kernel
theorem dL_state_15 : decode cL_state 15 = .ok (.iconst 0, 1) := by decide +kernel
theorem dL_state_16 : decode cL_state 16 = .ok (.ireturn, 1) := by decide +kernel
theorem dL_origin_0 : decode cL_origin 0 = .ok (.aload_n 2, 1) := by decide +kernel
theorem dL_origin_1 : decode cL_origin 1 = .ok (.iconst 0, 1) := by decide +kernel
theorem dL_origin_2 : decode cL_origin 2 = .ok (.aload_n 0, 1) := by decide +kernel
theorem dL_origin_3 : decode cL_origin 3 = .ok (.iload_n 1, 1) := by decide +kernel
theorem dL_origin_4 : decode cL_origin 4 = .ok (.invokevirtual 40, 3) := by decide +kernel
theorem dL_origin_7 : decode cL_origin 7 = .ok (.i2l, 1) := by decide +kernel
theorem dL_origin_8 : decode cL_origin 8 = .ok (.lastore, 1) := by decide +kernel
theorem dL_origin_9 : decode cL_origin 9 = .ok (.goto 6, 3) := by decide +kernel
theorem dL_origin_12 : decode cL_origin 12 = .ok (.astore_n 3, 1) := by decide +kernel
theorem dL_origin_13 : decode cL_origin 13 = .ok (.iconst 1, 1) := by decide +kernel
theorem dL_origin_14 : decode cL_origin 14 = .ok (.ireturn, 1) := by decide +kernel
theorem dL_origin_15 : decode cL_origin 15 = .ok (.iconst 0, 1) := by decide +kernel
theorem dL_origin_16 : decode cL_origin 16 = .ok (.ireturn, 1) := by decide +kernel
theorem dL_deadline_0 : decode cL_deadline 0 = .ok (.aload_n 2, 1) := by decide +kernel
theorem dL_deadline_1 : decode cL_deadline 1 = .ok (.iconst 0, 1) := by decide +kernel
theorem dL_deadline_2 : decode cL_deadline 2 = .ok (.aload_n 0, 1) := by decide +kernel
theorem dL_deadline_3 : decode cL_deadline 3 = .ok (.iload_n 1, 1) := by decide +kernel
theorem dL_deadline_4 : decode cL_deadline 4 = .ok (.invokevirtual 43, 3) := by decide +kernel
theorem dL_deadline_7 : decode cL_deadline 7 = .ok (.i2l, 1) := by decide +kernel
theorem dL_deadline_8 : decode cL_deadline 8 = .ok (.lastore, 1) := by decide +kernel
theorem dL_deadline_9 : decode cL_deadline 9 = .ok (.goto 6, 3) := by decide +kernel
theorem dL_deadline_12 : decode cL_deadline 12 = .ok (.astore_n 3, 1) := by decide +kernel
theorem dL_deadline_13 : decode cL_deadline 13 = .ok (.iconst 1, 1) := by decide +kernel
theorem dL_deadline_14 : decode cL_deadline 14 = .ok (.ireturn, 1) := by decide +kernel
theorem dL_deadline_15 : decode cL_deadline 15 = .ok (.iconst 0, 1) := by decide +kernel
theorem dL_deadline_16 : decode cL_deadline 16 = .ok (.ireturn, 1) := by decide +kernel
theorem dL_overAt_0 : decode cL_overAt 0 = .ok (.aload_n 2, 1) := by decide +kernel
theorem dL_overAt_1 : decode cL_overAt 1 = .ok (.iconst 0, 1) := by decide +kernel
theorem dL_overAt_2 : decode cL_overAt 2 = .ok (.aload_n 0, 1) := by decide +kernel
theorem dL_overAt_3 : decode cL_overAt 3 = .ok (.iload_n 1, 1) := by decide +kernel
theorem dL_overAt_4 : decode cL_overAt 4 = .ok (.invokevirtual 46, 3) := by decide +kernel
theorem dL_overAt_7 : decode cL_overAt 7 = .ok (.i2l, 1) := by decide +kernel
theorem dL_overAt_8 : decode cL_overAt 8 = .ok (.lastore, 1) := by decide +kernel
theorem dL_overAt_9 : decode cL_overAt 9 = .ok (.goto 6, 3) := by decide +kernel
theorem dL_overAt_12 : decode cL_overAt 12 = .ok (.astore_n 3, 1) := by decide +kernel
theorem dL_overAt_13 : decode cL_overAt 13 = .ok (.iconst 1, 1) := by decide +kernel
theorem dL_overAt_14 : decode cL_overAt 14 = .ok (.ireturn, 1) := by decide +kernel
theorem dL_overAt_15 : decode cL_overAt 15 = .ok (.iconst 0, 1) := by decide +kernel
theorem dL_overAt_16 : decode cL_overAt 16 = .ok (.ireturn, 1) := by decide +kernel
theorem dL_place_0 : decode cL_place 0 = .ok (.aload_n 2, 1) := by decide +kernel
theorem dL_place_1 : decode cL_place 1 = .ok (.iconst 0, 1) := by decide +kernel
theorem dL_place_2 : decode cL_place 2 = .ok (.aload_n 0, 1) := by decide +kernel
theorem dL_place_3 : decode cL_place 3 = .ok (.iload_n 1, 1) := by decide +kernel
theorem dL_place_4 : decode cL_place 4 = .ok (.invokevirtual 49, 3) := by decide +kernel
theorem dL_place_7 : decode cL_place 7 = .ok (.i2l, 1) := by decide +kernel
theorem dL_place_8 : decode cL_place 8 = .ok (.lastore, 1) := by decide +kernel
theorem dL_place_9 : decode cL_place 9 = .ok (.goto 6, 3) := by decide +kernel
theorem dL_place_12 : decode cL_place 12 = .ok (.astore_n 3, 1) := by decide +kernel
theorem dL_place_13 : decode cL_place 13 = .ok (.iconst 1, 1) := by decide +kernel
theorem dL_place_14 : decode cL_place 14 = .ok (.ireturn, 1) := by decide +kernel
theorem dL_place_15 : decode cL_place 15 = .ok (.iconst 0, 1) := by decide +kernel
theorem dL_place_16 : decode cL_place 16 = .ok (.ireturn, 1) := by decide +kernel
theorem dL_below_0 : decode cL_below 0 = .ok (.aload_n 2, 1) := by decide +kernel
theorem dL_below_1 : decode cL_below 1 = .ok (.iconst 0, 1) := by decide +kernel
theorem dL_below_2 : decode cL_below 2 = .ok (.aload_n 0, 1) := by decide +kernel
theorem dL_below_3 : decode cL_below 3 = .ok (.iload_n 1, 1) := by decide +kernel
theorem dL_below_4 : decode cL_below 4 = .ok (.invokevirtual 52, 3) := by decide +kernel
theorem dL_below_7 : decode cL_below 7 = .ok (.i2l, 1) := by decide +kernel
theorem dL_below_8 : decode cL_below 8 = .ok (.lastore, 1) := by decide +kernel
theorem dL_below_9 : decode cL_below 9 = .ok (.goto 6, 3) := by decide +kernel
theorem dL_below_12 : decode cL_below 12 = .ok (.astore_n 3, 1) := by decide +kernel
theorem dL_below_13 : decode cL_below 13 = .ok (.iconst 1, 1) := by decide +kernel
theorem dL_below_14 : decode cL_below 14 = .ok (.ireturn, 1) := by decide +kernel
theorem dL_below_15 : decode cL_below 15 = .ok (.iconst 0, 1) := by decide +kernel
theorem dL_below_16 : decode cL_below 16 = .ok (.ireturn, 1) := by decide +kernel
theorem dL_queuedAt_0 : decode cL_queuedAt 0 = .ok (.aload_n 3, 1) := by decide +kernel
theorem dL_queuedAt_1 : decode cL_queuedAt 1 = .ok (.iconst 0, 1) := by decide +kernel
theorem dL_queuedAt_2 : decode cL_queuedAt 2 = .ok (.aload_n 0, 1) := by decide +kernel
theorem dL_queuedAt_3 : decode cL_queuedAt 3 = .ok (.iload_n 1, 1) := by decide +kernel
theorem dL_queuedAt_4 : decode cL_queuedAt 4 = .ok (.iload_n 2, 1) := by decide +kernel
theorem dL_queuedAt_5 : decode cL_queuedAt 5 = .ok (.invokevirtual 55, 3) := by decide +kernel
theorem dL_queuedAt_8 : decode cL_queuedAt 8 = .ok (.i2l, 1) := by decide +kernel
theorem dL_queuedAt_9 : decode cL_queuedAt 9 = .ok (.lastore, 1) := by decide +kernel
theorem dL_queuedAt_10 : decode cL_queuedAt 10 = .ok (.goto 7, 3) := by decide +kernel
theorem dL_queuedAt_13 : decode cL_queuedAt 13 = .ok (.astore 4, 2) := by decide +kernel
theorem dL_queuedAt_15 : decode cL_queuedAt 15 = .ok (.iconst 1, 1) := by decide +kernel
theorem dL_queuedAt_16 : decode cL_queuedAt 16 = .ok (.ireturn, 1) := by decide +kernel
theorem dL_queuedAt_17 : decode cL_queuedAt 17 = .ok (.iconst 0, 1) := by decide +kernel
theorem dL_queuedAt_18 : decode cL_queuedAt 18 = .ok (.ireturn, 1) := by decide +kernel
theorem dL_count_0 : decode cL_count 0 = .ok (.aload_n 3, 1) := by decide +kernel
theorem dL_count_1 : decode cL_count 1 = .ok (.iconst 0, 1) := by decide +kernel
theorem dL_count_2 : decode cL_count 2 = .ok (.aload_n 0, 1) := by decide +kernel
theorem dL_count_3 : decode cL_count 3 = .ok (.iload_n 1, 1) := by decide +kernel
theorem dL_count_4 : decode cL_count 4 = .ok (.iload_n 2, 1) := by decide +kernel
theorem dL_count_5 : decode cL_count 5 = .ok (.invokevirtual 58, 3) := by decide +kernel
theorem dL_count_8 : decode cL_count 8 = .ok (.i2l, 1) := by decide +kernel
theorem dL_count_9 : decode cL_count 9 = .ok (.lastore, 1) := by decide +kernel
theorem dL_count_10 : decode cL_count 10 = .ok (.goto 11, 3) := by decide +kernel
theorem dL_count_13 : decode cL_count 13 = .ok (.astore 4, 2) := by decide +kernel
theorem dL_count_15 : decode cL_count 15 = .ok (.iconst 1, 1) := by decide +kernel
theorem dL_count_16 : decode cL_count 16 = .ok (.ireturn, 1) := by decide +kernel
theorem dL_count_17 : decode cL_count 17 = .ok (.astore 4, 2) := by decide +kernel
theorem dL_count_19 : decode cL_count 19 = .ok (.iconst 2, 1) := by decide +kernel
theorem dL_count_20 : decode cL_count 20 = .ok (.ireturn, 1) := by decide +kernel
theorem dL_count_21 : decode cL_count 21 = .ok (.iconst 0, 1) := by decide +kernel
theorem dL_count_22 : decode cL_count 22 = .ok (.ireturn, 1) := by decide +kernel
theorem dL_tokens_0 : decode cL_tokens 0 = .ok (.aload_n 2, 1) := by decide +kernel
theorem dL_tokens_1 : decode cL_tokens 1 = .ok (.iconst 0, 1) := by decide +kernel
theorem dL_tokens_2 : decode cL_tokens 2 = .ok (.aload_n 0, 1) := by decide +kernel
theorem dL_tokens_3 : decode cL_tokens 3 = .ok (.iload_n 1, 1) := by decide +kernel
theorem dL_tokens_4 : decode cL_tokens 4 = .ok (.invokevirtual 61, 3) := by decide +kernel
theorem dL_tokens_7 : decode cL_tokens 7 = .ok (.i2l, 1) := by decide +kernel
theorem dL_tokens_8 : decode cL_tokens 8 = .ok (.lastore, 1) := by decide +kernel
theorem dL_tokens_9 : decode cL_tokens 9 = .ok (.goto 6, 3) := by decide +kernel
theorem dL_tokens_12 : decode cL_tokens 12 = .ok (.astore_n 3, 1) := by decide +kernel
theorem dL_tokens_13 : decode cL_tokens 13 = .ok (.iconst 1, 1) := by decide +kernel
theorem dL_tokens_14 : decode cL_tokens 14 = .ok (.ireturn, 1) := by decide +kernel
theorem dL_tokens_15 : decode cL_tokens 15 = .ok (.iconst 0, 1) := by decide +kernel
theorem dL_tokens_16 : decode cL_tokens 16 = .ok (.ireturn, 1) := by decide +kernel
theorem dL_isOpen_0 : decode cL_isOpen 0 = .ok (.aload_n 2, 1) := by decide +kernel
theorem dL_isOpen_1 : decode cL_isOpen 1 = .ok (.iconst 0, 1) := by decide +kernel
theorem dL_isOpen_2 : decode cL_isOpen 2 = .ok (.aload_n 0, 1) := by decide +kernel
theorem dL_isOpen_3 : decode cL_isOpen 3 = .ok (.iload_n 1, 1) := by decide +kernel
theorem dL_isOpen_4 : decode cL_isOpen 4 = .ok (.invokevirtual 64, 3) := by decide +kernel
theorem dL_isOpen_7 : decode cL_isOpen 7 = .ok (.ifCond .eq 7, 3) := by decide +kernel
theorem dL_isOpen_10 : decode cL_isOpen 10 = .ok (.lconst 1, 1) := by decide +kernel
theorem dL_isOpen_11 : decode cL_isOpen 11 = .ok (.goto 4, 3) := by decide +kernel
theorem dL_isOpen_14 : decode cL_isOpen 14 = .ok (.lconst 0, 1) := by decide +kernel
theorem dL_isOpen_15 : decode cL_isOpen 15 = .ok (.lastore, 1) := by decide +kernel
theorem dL_isOpen_16 : decode cL_isOpen 16 = .ok (.goto 6, 3) := by decide +kernel
theorem dL_isOpen_19 : decode cL_isOpen 19 = .ok (.astore_n 3, 1) := by decide +kernel
theorem dL_isOpen_20 : decode cL_isOpen 20 = .ok (.iconst 1, 1) := by decide +kernel
theorem dL_isOpen_21 : decode cL_isOpen 21 = .ok (.ireturn, 1) := by decide +kernel
theorem dL_isOpen_22 : decode cL_isOpen 22 = .ok (.iconst 0, 1) := by decide +kernel
theorem dL_isOpen_23 : decode cL_isOpen 23 = .ok (.ireturn, 1) := by decide +kernel
