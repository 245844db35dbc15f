theorem dL_cell_0 : decode cL_cell 0 = .ok (.iload_n 1, 1) := by decide +kernel
theorem dL_cell_1 : decode cL_cell 1 = .ok (.aload_n 0, 1) := by decide +kernel
theorem dL_cell_2 : decode cL_cell 2 = .ok (.arraylength, 1) := by decide +kernel
theorem dL_cell_3 : decode cL_cell 3 = .ok (.if_icmp .ge 9, 3) := by decide +kernel
theorem dL_cell_6 : decode cL_cell 6 = .ok (.aload_n 0, 1) := by decide +kernel
theorem dL_cell_7 : decode cL_cell 7 = .ok (.iload_n 1, 1) := by decide +kernel
theorem dL_cell_8 : decode cL_cell 8 = .ok (.iaload, 1) := by decide +kernel
theorem dL_cell_9 : decode cL_cell 9 = .ok (.goto 10, 3) := by decide +kernel
theorem dL_cell_12 : decode cL_cell 12 = .ok (.ldc 7, 2) := by decide +kernel
theorem dL_cell_14 : decode cL_cell 14 = .ok (.iload_n 1, 1) := by decide +kernel
theorem dL_cell_15 : decode cL_cell 15 = .ok (.bipush 7, 2) := by decide +kernel
theorem dL_cell_17 : decode cL_cell 17 = .ok (.iadd, 1) := by decide +kernel
theorem dL_cell_18 : decode cL_cell 18 = .ok (.imul, 1) := by decide +kernel
theorem dL_cell_19 : decode cL_cell 19 = .ok (.ireturn, 1) := by decide +kernel
theorem dL_low_0 : decode cL_low 0 = .ok (.iload_n 0, 1) := by decide +kernel
theorem dL_low_1 : decode cL_low 1 = .ok (.iconst 1, 1) := by decide +kernel
theorem dL_low_2 : decode cL_low 2 = .ok (.iushr, 1) := by decide +kernel
theorem dL_low_3 : decode cL_low 3 = .ok (.iload_n 1, 1) := by decide +kernel
theorem dL_low_4 : decode cL_low 4 = .ok (.irem, 1) := by decide +kernel
theorem dL_low_5 : decode cL_low 5 = .ok (.ireturn, 1) := by decide +kernel
theorem dL_setWork_0 : decode cL_setWork 0 = .ok (.aload_n 0, 1) := by decide +kernel
theorem dL_setWork_1 : decode cL_setWork 1 = .ok (.iload_n 1, 1) := by decide +kernel
theorem dL_setWork_2 : decode cL_setWork 2 = .ok (.iload_n 2, 1) := by decide +kernel
theorem dL_setWork_3 : decode cL_setWork 3 = .ok (.iload_n 3, 1) := by decide +kernel
theorem dL_setWork_4 : decode cL_setWork 4 = .ok (.invokevirtual 8, 3) := by decide +kernel
theorem dL_setWork_7 : decode cL_setWork 7 = .ok (.istore 4, 2) := by decide +kernel
theorem dL_setWork_9 : decode cL_setWork 9 = .ok (.goto 13, 3) := by decide +kernel
theorem dL_setWork_12 : decode cL_setWork 12 = .ok (.astore 5, 2) := by decide +kernel
theorem dL_setWork_14 : decode cL_setWork 14 = .ok (.bipush (-71), 2) := by decide +kernel
theorem dL_setWork_16 : decode cL_setWork 16 = .ok (.ireturn, 1) := by decide +kernel
theorem dL_setWork_17 : decode cL_setWork 17 = .ok (.astore 5, 2) := by decide +kernel
theorem dL_setWork_19 : decode cL_setWork 19 = .ok (.bipush (-72), 2) := by decide +kernel
theorem dL_setWork_21 : decode cL_setWork 21 = .ok (.ireturn, 1) := by decide +kernel
theorem dL_setWork_22 : decode cL_setWork 22 = .ok (.iload 4, 2) := by decide +kernel
theorem dL_setWork_24 : decode cL_setWork 24 = .ok (.ireturn, 1) := by decide +kernel
theorem dL_ask_0 : decode cL_ask 0 = .ok (.aload_n 0, 1) := by decide +kernel
theorem dL_ask_1 : decode cL_ask 1 = .ok (.iload_n 1, 1) := by decide +kernel
theorem dL_ask_2 : decode cL_ask 2 = .ok (.iload_n 2, 1) := by decide +kernel
theorem dL_ask_3 : decode cL_ask 3 = .ok (.invokevirtual 18, 3) := by decide +kernel
theorem dL_ask_6 : decode cL_ask 6 = .ok (.istore_n 3, 1) := by decide +kernel
theorem dL_ask_7 : decode cL_ask 7 = .ok (.goto 18, 3) := by decide +kernel
theorem dL_ask_10 : decode cL_ask 10 = .ok (.astore 4, 2) := by decide +kernel
theorem dL_ask_12 : decode cL_ask 12 = .ok (.bipush (-71), 2) := by decide +kernel
theorem dL_ask_14 : decode cL_ask 14 = .ok (.ireturn, 1) := by decide +kernel
theorem dL_ask_15 : decode cL_ask 15 = .ok (.astore 4, 2) := by decide +kernel
theorem dL_ask_17 : decode cL_ask 17 = .ok (.bipush (-72), 2) := by decide +kernel
theorem dL_ask_19 : decode cL_ask 19 = .ok (.ireturn, 1) := by decide +kernel
theorem dL_ask_20 : decode cL_ask 20 = .ok (.astore 4, 2) := by decide +kernel
theorem dL_ask_22 : decode cL_ask 22 = .ok (.bipush (-73), 2) := by decide +kernel
theorem dL_ask_24 : decode cL_ask 24 = .ok (.ireturn, 1) := by decide +kernel
theorem dL_ask_25 : decode cL_ask 25 = .ok (.iload_n 3, 1) := by decide +kernel
theorem dL_ask_26 : decode cL_ask 26 = .ok (.ireturn, 1) := by decide +kernel
theorem dL_setRoom_0 : decode cL_setRoom 0 = .ok (.aload_n 0, 1) := by decide +kernel
theorem dL_setRoom_1 : decode cL_setRoom 1 = .ok (.iload_n 1, 1) := by decide +kernel
theorem dL_setRoom_2 : decode cL_setRoom 2 = .ok (.iload_n 2, 1) := by decide +kernel
theorem dL_setRoom_3 : decode cL_setRoom 3 = .ok (.iload_n 3, 1) := by decide +kernel
theorem dL_setRoom_4 : decode cL_setRoom 4 = .ok (.iload 4, 2) := by decide +kernel
theorem dL_setRoom_6 : decode cL_setRoom 6 = .ok (.invokevirtual 24, 3) := by decide +kernel
theorem dL_setRoom_9 : decode cL_setRoom 9 = .ok (.istore 5, 2) := by decide +kernel
theorem dL_setRoom_11 : decode cL_setRoom 11 = .ok (.goto 13, 3) := by decide +kernel
theorem dL_setRoom_14 : decode cL_setRoom 14 = .ok (.astore 6, 2) := by decide +kernel
theorem dL_setRoom_16 : decode cL_setRoom 16 = .ok (.bipush (-71), 2) := by decide +kernel
theorem dL_setRoom_18 : decode cL_setRoom 18 = .ok (.ireturn, 1) := by decide +kernel
theorem dL_setRoom_19 : decode cL_setRoom 19 = .ok (.astore 6, 2) := by decide +kernel
theorem dL_setRoom_21 : decode cL_setRoom 21 = .ok (.bipush (-72), 2) := by decide +kernel
theorem dL_setRoom_23 : decode cL_setRoom 23 = .ok (.ireturn, 1) := by decide +kernel
theorem dL_setRoom_24 : decode cL_setRoom 24 = .ok (.iload 5, 2) := by decide +kernel
theorem dL_setRoom_26 : decode cL_setRoom 26 = .ok (.ireturn, 1) := by decide +kernel
theorem dL_call_0 : decode cL_call 0 = .ok (.aload_n 0, 1) := by decide +kernel
theorem dL_call_1 : decode cL_call 1 = .ok (.iload_n 1, 1) := by decide +kernel
theorem dL_call_2 : decode cL_call 2 = .ok (.iload_n 2, 1) := by decide +kernel
theorem dL_call_3 : decode cL_call 3 = .ok (.invokevirtual 28, 3) := by decide +kernel
theorem dL_call_6 : decode cL_call 6 = .ok (.istore_n 3, 1) := by decide +kernel
theorem dL_call_7 : decode cL_call 7 = .ok (.goto 18, 3) := by decide +kernel
theorem dL_call_10 : decode cL_call 10 = .ok (.astore 4, 2) := by decide +kernel
theorem dL_call_12 : decode cL_call 12 = .ok (.bipush (-71), 2) := by decide +kernel
theorem dL_call_14 : decode cL_call 14 = .ok (.ireturn, 1) := by decide +kernel
theorem dL_call_15 : decode cL_call 15 = .ok (.astore 4, 2) := by decide +kernel
theorem dL_call_17 : decode cL_call 17 = .ok (.bipush (-72), 2) := by decide +kernel
theorem dL_call_19 : decode cL_call 19 = .ok (.ireturn, 1) := by decide +kernel
theorem dL_call_20 : decode cL_call 20 = .ok (.astore 4, 2) := by decide +kernel
theorem dL_call_22 : decode cL_call 22 = .ok (.bipush (-73), 2) := by decide +kernel
theorem dL_call_24 : decode cL_call 24 = .ok (.ireturn, 1) := by decide +kernel
theorem dL_call_25 : decode cL_call 25 = .ok (.iload_n 3, 1) := by decide +kernel
theorem dL_call_26 : decode cL_call 26 = .ok (.ireturn, 1) := by decide +kernel
theorem dL_cancel_0 : decode cL_cancel 0 = .ok (.aload_n 0, 1) := by decide +kernel
theorem dL_cancel_1 : decode cL_cancel 1 = .ok (.iload_n 1, 1) := by decide +kernel
theorem dL_cancel_2 : decode cL_cancel 2 = .ok (.invokevirtual 31, 3) := by decide +kernel
theorem dL_cancel_5 : decode cL_cancel 5 = .ok (.istore_n 2, 1) := by decide +kernel
theorem dL_cancel_6 : decode cL_cancel 6 = .ok (.goto 11, 3) := by decide +kernel
theorem dL_cancel_9 : decode cL_cancel 9 = .ok (.astore_n 3, 1) := by decide +kernel
theorem dL_cancel_10 : decode cL_cancel 10 = .ok (.bipush (-71), 2) := by decide +kernel
theorem dL_cancel_12 : decode cL_cancel 12 = .ok (.ireturn, 1) := by decide +kernel
theorem dL_cancel_13 : decode cL_cancel 13 = .ok (.astore_n 3, 1) := by decide +kernel
theorem dL_cancel_14 : decode cL_cancel 14 = .ok (.bipush (-73), 2) := by decide +kernel
theorem dL_cancel_16 : decode cL_cancel 16 = .ok (.ireturn, 1) := by decide +kernel
theorem dL_cancel_17 : decode cL_cancel 17 = .ok (.iload_n 2, 1) := by decide +kernel
theorem dL_cancel_18 : decode cL_cancel 18 = .ok (.ireturn, 1) := by decide +kernel
theorem dL_pass_0 : decode cL_pass 0 = .ok (.aload_n 0, 1) := by decide +kernel
theorem dL_pass_1 : decode cL_pass 1 = .ok (.iload_n 1, 1) := by decide +kernel
theorem dL_pass_2 : decode cL_pass 2 = .ok (.invokevirtual 35, 3) := by decide +kernel
theorem dL_pass_5 : decode cL_pass 5 = .ok (.istore_n 2, 1) := by decide +kernel
theorem dL_pass_6 : decode cL_pass 6 = .ok (.goto 7, 3) := by decide +kernel
theorem dL_pass_9 : decode cL_pass 9 = .ok (.astore_n 3, 1) := by decide +kernel
theorem dL_pass_10 : decode cL_pass 10 = .ok (.bipush (-72), 2) := by decide +kernel
theorem dL_pass_12 : decode cL_pass 12 = .ok (.ireturn, 1) := by decide +kernel
theorem dL_pass_13 : decode cL_pass 13 = .ok (.iload_n 2, 1) := by decide +kernel
theorem dL_pass_14 : decode cL_pass 14 = .ok (.ireturn, 1) := by decide +kernel
theorem dL_state_0 : decode cL_state 0 = .ok (.aload_n 0, 1) := by decide +kernel
theorem dL_state_1 : decode cL_state 1 = .ok (.iload_n 1, 1) := by decide +kernel
theorem dL_state_2 : decode cL_state 2 = .ok (.invokevirtual 38, 3) := by decide +kernel
theorem dL_state_5 : decode cL_state 5 = .ok (.istore_n 2, 1) := by decide +kernel
theorem dL_state_6 : decode cL_state 6 = .ok (.goto 7, 3) := by decide +kernel
theorem dL_state_9 : decode cL_state 9 = .ok (.astore_n 3, 1) := by decide +kernel
theorem dL_state_10 : decode cL_state 10 = .ok (.bipush (-71), 2) := by decide +kernel
theorem dL_state_12 : decode cL_state 12 = .ok (.ireturn, 1) := by decide +kernel
theorem dL_state_13 : decode cL_state 13 = .ok (.iload_n 2, 1) := by decide +kernel
theorem dL_state_14 : decode cL_state 14 = .ok (.ireturn, 1) := by decide +kernel
theorem dL_place_0 : decode cL_place 0 = .ok (.aload_n 0, 1) := by decide +kernel
theorem dL_place_1 : decode cL_place 1 = .ok (.iload_n 1, 1) := by decide +kernel
theorem dL_place_2 : decode cL_place 2 = .ok (.invokevirtual 41, 3) := by decide +kernel
theorem dL_place_5 : decode cL_place 5 = .ok (.istore_n 2, 1) := by decide +kernel
theorem dL_place_6 : decode cL_place 6 = .ok (.goto 7, 3) := by decide +kernel
theorem dL_place_9 : decode cL_place 9 = .ok (.astore_n 3, 1) := by decide +kernel
theorem dL_place_10 : decode cL_place 10 = .ok (.bipush (-71), 2) := by decide +kernel
theorem dL_place_12 : decode cL_place 12 = .ok (.ireturn, 1) := by decide +kernel
theorem dL_place_13 : decode cL_place 13 = .ok (.iload_n 2, 1) := by decide +kernel
theorem dL_place_14 : decode cL_place 14 = .ok (.ireturn, 1) := by decide +kernel
theorem dL_queuedAt_0 : decode cL_queuedAt 0 = .ok (.aload_n 0, 1) := by decide +kernel
theorem dL_queuedAt_1 : decode cL_queuedAt 1 = .ok (.iload_n 1, 1) := by decide +kernel
theorem dL_queuedAt_2 : decode cL_queuedAt 2 = .ok (.iload_n 2, 1) := by decide +kernel
theorem dL_queuedAt_3 : decode cL_queuedAt 3 = .ok (.invokevirtual 44, 3) := by decide +kernel
theorem dL_queuedAt_6 : decode cL_queuedAt 6 = .ok (.istore_n 3, 1) := by decide +kernel
theorem dL_queuedAt_7 : decode cL_queuedAt 7 = .ok (.goto 8, 3) := by decide +kernel
theorem dL_queuedAt_10 : decode cL_queuedAt 10 = .ok (.astore 4, 2) := by decide +kernel
theorem dL_queuedAt_12 : decode cL_queuedAt 12 = .ok (.bipush (-71), 2) := by decide +kernel
theorem dL_queuedAt_14 : decode cL_queuedAt 14 = .ok (.ireturn, 1) := by decide +kernel
theorem dL_queuedAt_15 : decode cL_queuedAt 15 = .ok (.iload_n 3, 1) := by decide +kernel
theorem dL_queuedAt_16 : decode cL_queuedAt 16 = .ok (.ireturn, 1) := by decide +kernel
theorem dL_count_0 : decode cL_count 0 = .ok (.aload_n 0, 1) := by decide +kernel
theorem dL_count_1 : decode cL_count 1 = .ok (.iload_n 1, 1) := by decide +kernel
theorem dL_count_2 : decode cL_count 2 = .ok (.iload_n 2, 1) := by decide +kernel
theorem dL_count_3 : decode cL_count 3 = .ok (.invokevirtual 47, 3) := by decide +kernel
theorem dL_count_6 : decode cL_count 6 = .ok (.istore_n 3, 1) := by decide +kernel
theorem dL_count_7 : decode cL_count 7 = .ok (.goto 13, 3) := by decide +kernel
theorem dL_count_10 : decode cL_count 10 = .ok (.astore 4, 2) := by decide +kernel
theorem dL_count_12 : decode cL_count 12 = .ok (.bipush (-71), 2) := by decide +kernel
theorem dL_count_14 : decode cL_count 14 = .ok (.ireturn, 1) := by decide +kernel
theorem dL_count_15 : decode cL_count 15 = .ok (.astore 4, 2) := by decide +kernel
theorem dL_count_17 : decode cL_count 17 = .ok (.bipush (-72), 2) := by decide +kernel
theorem dL_count_19 : decode cL_count 19 = .ok (.ireturn, 1) := by decide +kernel
theorem dL_count_20 : decode cL_count 20 = .ok (.iload_n 3, 1) := by decide +kernel
theorem dL_count_21 : decode cL_count 21 = .ok (.ireturn, 1) := by decide +kernel
theorem dL_tokens_0 : decode cL_tokens 0 = .ok (.aload_n 0, 1) := by decide +kernel
theorem dL_tokens_1 : decode cL_tokens 1 = .ok (.iload_n 1, 1) := by decide +kernel
theorem dL_tokens_2 : decode cL_tokens 2 = .ok (.invokevirtual 50, 3) := by decide +kernel
theorem dL_tokens_5 : decode cL_tokens 5 = .ok (.istore_n 2, 1) := by decide +kernel
theorem dL_tokens_6 : decode cL_tokens 6 = .ok (.goto 7, 3) := by decide +kernel
theorem dL_tokens_9 : decode cL_tokens 9 = .ok (.astore_n 3, 1) := by decide +kernel
theorem dL_tokens_10 : decode cL_tokens 10 = .ok (.bipush (-71), 2) := by decide +kernel
theorem dL_tokens_12 : decode cL_tokens 12 = .ok (.ireturn, 1) := by decide +kernel
theorem dL_tokens_13 : decode cL_tokens 13 = .ok (.iload_n 2, 1) := by decide +kernel
theorem dL_tokens_14 : decode cL_tokens 14 = .ok (.ireturn, 1) := by decide +kernel
theorem dL_get_0 : decode cL_get 0 = .ok (.aload_n 0, 1) := by decide +kernel
theorem dL_get_1 : decode cL_get 1 = .ok (.iload_n 1, 1) := by decide +kernel
theorem dL_get_2 : decode cL_get 2 = .ok (.iaload, 1) := by decide +kernel
theorem dL_get_3 : decode cL_get 3 = .ok (.iload_n 2, 1) := by decide +kernel
theorem dL_get_4 : decode cL_get 4 = .ok (.ishr, 1) := by decide +kernel
theorem dL_get_5 : decode cL_get 5 = .ok (.iconst 1, 1) := by decide +kernel
theorem dL_get_6 : decode cL_get 6 = .ok (.iload_n 3, 1) := by decide +kernel
theorem dL_get_7 : decode cL_get 7 = .ok (.ishl, 1) := by decide +kernel
theorem dL_get_8 : decode cL_get 8 = .ok (.iconst 1, 1) := by decide +kernel
theorem dL_get_9 : decode cL_get 9 = .ok (.isub, 1) := by decide +kernel
theorem dL_get_10 : decode cL_get 10 = .ok (.iand, 1) := by decide +kernel
theorem dL_get_11 : decode cL_get 11 = .ok (.ireturn, 1) := by decide +kernel
theorem dL_put_0 : decode cL_put 0 = .ok (.aload_n 0, 1) := by decide +kernel
theorem dL_put_1 : decode cL_put 1 = .ok (.iload_n 1, 1) := by decide +kernel
theorem dL_put_2 : decode cL_put 2 = .ok (.aload_n 0, 1) := by decide +kernel
theorem dL_put_3 : decode cL_put 3 = .ok (.iload_n 1, 1) := by decide +kernel
theorem dL_put_4 : decode cL_put 4 = .ok (.iaload, 1) := by decide +kernel
theorem dL_put_5 : decode cL_put 5 = .ok (.iconst 1, 1) := by decide +kernel
theorem dL_put_6 : decode cL_put 6 = .ok (.iload_n 3, 1) := by decide +kernel
theorem dL_put_7 : decode cL_put 7 = .ok (.ishl, 1) := by decide +kernel
theorem dL_put_8 : decode cL_put 8 = .ok (.iconst 1, 1) := by decide +kernel
theorem dL_put_9 : decode cL_put 9 = .ok (.isub, 1) := by decide +kernel
theorem dL_put_10 : decode cL_put 10 = .ok (.iload_n 2, 1) := by decide +kernel
theorem dL_put_11 : decode cL_put 11 = .ok (.ishl, 1) := by decide +kernel
theorem dL_put_12 : decode cL_put 12 = .ok (.iconst (-1), 1) := by decide +kernel
theorem dL_put_13 : decode cL_put 13 = .ok (.ixor, 1) := by decide +kernel
theorem dL_put_14 : decode cL_put 14 = .ok (.iand, 1) := by decide +kernel
theorem dL_put_15 : decode cL_put 15 = .ok (.iload 4, 2) := by decide +kernel
theorem dL_put_17 : decode cL_put 17 = .ok (.iload_n 2, 1) := by decide +kernel
theorem dL_put_18 : decode cL_put 18 = .ok (.ishl, 1) := by decide +kernel
theorem dL_put_19 : decode cL_put 19 = .ok (.ior, 1) := by decide +kernel
theorem dL_put_20 : decode cL_put 20 = .ok (.iastore, 1) := by decide +kernel
theorem dL_put_21 : decode cL_put 21 = .ok (.return_, 1) := by decide +kernel
theorem dL_many_0 : decode cL_many 0 = .ok (.iconst 0, 1) := by decide +kernel
theorem dL_many_1 : decode cL_many 1 = .ok (.istore 4, 2) := by decide +kernel
theorem dL_many_3 : decode cL_many 3 = .ok (.iconst 0, 1) := by decide +kernel
theorem dL_many_4 : decode cL_many 4 = .ok (.istore 5, 2) := by decide +kernel
theorem dL_many_6 : decode cL_many 6 = .ok (.iload 5, 2) := by decide +kernel
theorem dL_many_8 : decode cL_many 8 = .ok (.aload_n 1, 1) := by decide +kernel
theorem dL_many_9 : decode cL_many 9 = .ok (.iconst 1, 1) := by decide +kernel
theorem dL_many_10 : decode cL_many 10 = .ok (.iaload, 1) := by decide +kernel
theorem dL_many_11 : decode cL_many 11 = .ok (.if_icmp .ge 35, 3) := by decide +kernel
theorem dL_many_14 : decode cL_many 14 = .ok (.iload 4, 2) := by decide +kernel
theorem dL_many_16 : decode cL_many 16 = .ok (.aload_n 0, 1) := by decide +kernel
theorem dL_many_17 : decode cL_many 17 = .ok (.iload 5, 2) := by decide +kernel
theorem dL_many_19 : decode cL_many 19 = .ok (.iaload, 1) := by decide +kernel
theorem dL_many_20 : decode cL_many 20 = .ok (.bipush 63, 2) := by decide +kernel
theorem dL_many_22 : decode cL_many 22 = .ok (.iand, 1) := by decide +kernel
theorem dL_many_23 : decode cL_many 23 = .ok (.iload_n 2, 1) := by decide +kernel
theorem dL_many_24 : decode cL_many 24 = .ok (.bipush 8, 2) := by decide +kernel
theorem dL_many_26 : decode cL_many 26 = .ok (.iload_n 3, 1) := by decide +kernel
theorem dL_many_27 : decode cL_many 27 = .ok (.imul, 1) := by decide +kernel
theorem dL_many_28 : decode cL_many 28 = .ok (.iadd, 1) := by decide +kernel
theorem dL_many_29 : decode cL_many 29 = .ok (.if_icmp .ne 7, 3) := by decide +kernel
theorem dL_many_32 : decode cL_many 32 = .ok (.iconst 1, 1) := by decide +kernel
theorem dL_many_33 : decode cL_many 33 = .ok (.goto 4, 3) := by decide +kernel
theorem dL_many_36 : decode cL_many 36 = .ok (.iconst 0, 1) := by decide +kernel
theorem dL_many_37 : decode cL_many 37 = .ok (.iadd, 1) := by decide +kernel
theorem dL_many_38 : decode cL_many 38 = .ok (.istore 4, 2) := by decide +kernel
theorem dL_many_40 : decode cL_many 40 = .ok (.iinc 5 1, 3) := by decide +kernel
theorem dL_many_43 : decode cL_many 43 = .ok (.goto (-37), 3) := by decide +kernel
theorem dL_many_46 : decode cL_many 46 = .ok (.iload 4, 2) := by decide +kernel
theorem dL_many_48 : decode cL_many 48 = .ok (.ireturn, 1) := by decide +kernel
theorem dL_end_0 : decode cL_end 0 = .ok (.aload_n 3, 1) := by decide +kernel
theorem dL_end_1 : decode cL_end 1 = .ok (.iload_n 0, 1) := by decide +kernel
theorem dL_end_2 : decode cL_end 2 = .ok (.iconst 3, 1) := by decide +kernel
theorem dL_end_3 : decode cL_end 3 = .ok (.iconst 3, 1) := by decide +kernel
theorem dL_end_4 : decode cL_end 4 = .ok (.iload_n 1, 1) := by decide +kernel
theorem dL_end_5 : decode cL_end 5 = .ok (.invokestatic 53, 3) := by decide +kernel
theorem dL_end_8 : decode cL_end 8 = .ok (.aload 5, 2) := by decide +kernel
theorem dL_end_10 : decode cL_end 10 = .ok (.iload_n 0, 1) := by decide +kernel
theorem dL_end_11 : decode cL_end 11 = .ok (.aload 6, 2) := by decide +kernel
theorem dL_end_13 : decode cL_end 13 = .ok (.iconst 0, 1) := by decide +kernel
theorem dL_end_14 : decode cL_end 14 = .ok (.iaload, 1) := by decide +kernel
theorem dL_end_15 : decode cL_end 15 = .ok (.iastore, 1) := by decide +kernel
theorem dL_end_16 : decode cL_end 16 = .ok (.aload 4, 2) := by decide +kernel
theorem dL_end_18 : decode cL_end 18 = .ok (.iload_n 0, 1) := by decide +kernel
theorem dL_end_19 : decode cL_end 19 = .ok (.iaload, 1) := by decide +kernel
theorem dL_end_20 : decode cL_end 20 = .ok (.istore 7, 2) := by decide +kernel
theorem dL_end_22 : decode cL_end 22 = .ok (.iload 7, 2) := by decide +kernel
theorem dL_end_24 : decode cL_end 24 = .ok (.ifCond .ge 14, 3) := by decide +kernel
theorem dL_end_27 : decode cL_end 27 = .ok (.aload 6, 2) := by decide +kernel
theorem dL_end_29 : decode cL_end 29 = .ok (.iconst 2, 1) := by decide +kernel
theorem dL_end_30 : decode cL_end 30 = .ok (.dup2, 1) := by decide +kernel
theorem dL_end_31 : decode cL_end 31 = .ok (.iaload, 1) := by decide +kernel
theorem dL_end_32 : decode cL_end 32 = .ok (.iconst 1, 1) := by decide +kernel
theorem dL_end_33 : decode cL_end 33 = .ok (.iadd, 1) := by decide +kernel
theorem dL_end_34 : decode cL_end 34 = .ok (.iastore, 1) := by decide +kernel
theorem dL_end_35 : decode cL_end 35 = .ok (.goto 70, 3) := by decide +kernel
theorem dL_end_38 : decode cL_end 38 = .ok (.aload_n 3, 1) := by decide +kernel
theorem dL_end_39 : decode cL_end 39 = .ok (.iload 7, 2) := by decide +kernel
theorem dL_end_41 : decode cL_end 41 = .ok (.iconst 3, 1) := by decide +kernel
theorem dL_end_42 : decode cL_end 42 = .ok (.iconst 3, 1) := by decide +kernel
theorem dL_end_43 : decode cL_end 43 = .ok (.invokestatic 59, 3) := by decide +kernel
theorem dL_end_46 : decode cL_end 46 = .ok (.iconst 2, 1) := by decide +kernel
theorem dL_end_47 : decode cL_end 47 = .ok (.if_icmp .ne 58, 3) := by decide +kernel
theorem dL_end_50 : decode cL_end 50 = .ok (.aload_n 3, 1) := by decide +kernel
theorem dL_end_51 : decode cL_end 51 = .ok (.iload 7, 2) := by decide +kernel
theorem dL_end_53 : decode cL_end 53 = .ok (.bipush 6, 2) := by decide +kernel
theorem dL_end_55 : decode cL_end 55 = .ok (.iconst 2, 1) := by decide +kernel
theorem dL_end_56 : decode cL_end 56 = .ok (.invokestatic 59, 3) := by decide +kernel
theorem dL_end_59 : decode cL_end 59 = .ok (.aload_n 3, 1) := by decide +kernel
theorem dL_end_60 : decode cL_end 60 = .ok (.iload_n 0, 1) := by decide +kernel
theorem dL_end_61 : decode cL_end 61 = .ok (.bipush 18, 2) := by decide +kernel
theorem dL_end_63 : decode cL_end 63 = .ok (.iconst 2, 1) := by decide +kernel
theorem dL_end_64 : decode cL_end 64 = .ok (.invokestatic 59, 3) := by decide +kernel
theorem dL_end_67 : decode cL_end 67 = .ok (.if_icmp .ne 38, 3) := by decide +kernel
theorem dL_end_70 : decode cL_end 70 = .ok (.aload_n 3, 1) := by decide +kernel
theorem dL_end_71 : decode cL_end 71 = .ok (.iload 7, 2) := by decide +kernel
theorem dL_end_73 : decode cL_end 73 = .ok (.bipush 14, 2) := by decide +kernel
theorem dL_end_75 : decode cL_end 75 = .ok (.iconst 3, 1) := by decide +kernel
theorem dL_end_76 : decode cL_end 76 = .ok (.aload_n 3, 1) := by decide +kernel
theorem dL_end_77 : decode cL_end 77 = .ok (.iload 7, 2) := by decide +kernel
theorem dL_end_79 : decode cL_end 79 = .ok (.bipush 14, 2) := by decide +kernel
theorem dL_end_81 : decode cL_end 81 = .ok (.iconst 3, 1) := by decide +kernel
theorem dL_end_82 : decode cL_end 82 = .ok (.invokestatic 59, 3) := by decide +kernel
theorem dL_end_85 : decode cL_end 85 = .ok (.iconst 1, 1) := by decide +kernel
theorem dL_end_86 : decode cL_end 86 = .ok (.isub, 1) := by decide +kernel
theorem dL_end_87 : decode cL_end 87 = .ok (.invokestatic 53, 3) := by decide +kernel
theorem dL_end_90 : decode cL_end 90 = .ok (.iload_n 1, 1) := by decide +kernel
theorem dL_end_91 : decode cL_end 91 = .ok (.iconst 3, 1) := by decide +kernel
theorem dL_end_92 : decode cL_end 92 = .ok (.if_icmp .ne 13, 3) := by decide +kernel
theorem dL_end_95 : decode cL_end 95 = .ok (.aload_n 3, 1) := by decide +kernel
theorem dL_end_96 : decode cL_end 96 = .ok (.iload 7, 2) := by decide +kernel
theorem dL_end_98 : decode cL_end 98 = .ok (.bipush 17, 2) := by decide +kernel
theorem dL_end_100 : decode cL_end 100 = .ok (.iconst 1, 1) := by decide +kernel
theorem dL_end_101 : decode cL_end 101 = .ok (.iconst 1, 1) := by decide +kernel
theorem dL_end_102 : decode cL_end 102 = .ok (.invokestatic 53, 3) := by decide +kernel
theorem dL_end_105 : decode cL_end 105 = .ok (.aload_n 3, 1) := by decide +kernel
theorem dL_end_106 : decode cL_end 106 = .ok (.iload_n 0, 1) := by decide +kernel
theorem dL_end_107 : decode cL_end 107 = .ok (.iaload, 1) := by decide +kernel
theorem dL_end_108 : decode cL_end 108 = .ok (.bipush 7, 2) := by decide +kernel
theorem dL_end_110 : decode cL_end 110 = .ok (.iand, 1) := by decide +kernel
theorem dL_end_111 : decode cL_end 111 = .ok (.istore 8, 2) := by decide +kernel
theorem dL_end_113 : decode cL_end 113 = .ok (.iload_n 1, 1) := by decide +kernel
theorem dL_end_114 : decode cL_end 114 = .ok (.iconst 3, 1) := by decide +kernel
theorem dL_end_115 : decode cL_end 115 = .ok (.if_icmp .ne 43, 3) := by decide +kernel
theorem dL_end_118 : decode cL_end 118 = .ok (.aload_n 2, 1) := by decide +kernel
theorem dL_end_119 : decode cL_end 119 = .ok (.bipush 10, 2) := by decide +kernel
theorem dL_end_121 : decode cL_end 121 = .ok (.iload 8, 2) := by decide +kernel
theorem dL_end_123 : decode cL_end 123 = .ok (.imul, 1) := by decide +kernel
theorem dL_end_124 : decode cL_end 124 = .ok (.bipush 7, 2) := by decide +kernel
theorem dL_end_126 : decode cL_end 126 = .ok (.iadd, 1) := by decide +kernel
theorem dL_end_127 : decode cL_end 127 = .ok (.iaload, 1) := by decide +kernel
theorem dL_end_128 : decode cL_end 128 = .ok (.bipush 50, 2) := by decide +kernel
theorem dL_end_130 : decode cL_end 130 = .ok (.if_icmp .ge 17, 3) := by decide +kernel
theorem dL_end_133 : decode cL_end 133 = .ok (.aload_n 2, 1) := by decide +kernel
theorem dL_end_134 : decode cL_end 134 = .ok (.bipush 10, 2) := by decide +kernel
theorem dL_end_136 : decode cL_end 136 = .ok (.iload 8, 2) := by decide +kernel
theorem dL_end_138 : decode cL_end 138 = .ok (.imul, 1) := by decide +kernel
theorem dL_end_139 : decode cL_end 139 = .ok (.bipush 7, 2) := by decide +kernel
theorem dL_end_141 : decode cL_end 141 = .ok (.iadd, 1) := by decide +kernel
theorem dL_end_142 : decode cL_end 142 = .ok (.dup2, 1) := by decide +kernel
theorem dL_end_143 : decode cL_end 143 = .ok (.iaload, 1) := by decide +kernel
theorem dL_end_144 : decode cL_end 144 = .ok (.iconst 1, 1) := by decide +kernel
theorem dL_end_145 : decode cL_end 145 = .ok (.iadd, 1) := by decide +kernel
theorem dL_end_146 : decode cL_end 146 = .ok (.iastore, 1) := by decide +kernel
theorem dL_end_147 : decode cL_end 147 = .ok (.aload_n 2, 1) := by decide +kernel
theorem dL_end_148 : decode cL_end 148 = .ok (.bipush 10, 2) := by decide +kernel
theorem dL_end_150 : decode cL_end 150 = .ok (.iload 8, 2) := by decide +kernel
theorem dL_end_152 : decode cL_end 152 = .ok (.imul, 1) := by decide +kernel
theorem dL_end_153 : decode cL_end 153 = .ok (.bipush 8, 2) := by decide +kernel
theorem dL_end_155 : decode cL_end 155 = .ok (.iadd, 1) := by decide +kernel
theorem dL_end_156 : decode cL_end 156 = .ok (.iconst 0, 1) := by decide +kernel
theorem dL_end_157 : decode cL_end 157 = .ok (.iastore, 1) := by decide +kernel
theorem dL_end_158 : decode cL_end 158 = .ok (.iload_n 0, 1) := by decide +kernel
theorem dL_end_159 : decode cL_end 159 = .ok (.iconst 1, 1) := by decide +kernel
theorem dL_end_160 : decode cL_end 160 = .ok (.iadd, 1) := by decide +kernel
theorem dL_end_161 : decode cL_end 161 = .ok (.istore 9, 2) := by decide +kernel
theorem dL_end_163 : decode cL_end 163 = .ok (.iload 9, 2) := by decide +kernel
theorem dL_end_165 : decode cL_end 165 = .ok (.aload 6, 2) := by decide +kernel
theorem dL_end_167 : decode cL_end 167 = .ok (.iconst 1, 1) := by decide +kernel
theorem dL_end_168 : decode cL_end 168 = .ok (.iaload, 1) := by decide +kernel
theorem dL_end_169 : decode cL_end 169 = .ok (.if_icmp .ge 66, 3) := by decide +kernel
theorem dL_end_172 : decode cL_end 172 = .ok (.aload 4, 2) := by decide +kernel
theorem dL_end_174 : decode cL_end 174 = .ok (.iload 9, 2) := by decide +kernel
theorem dL_end_176 : decode cL_end 176 = .ok (.iaload, 1) := by decide +kernel
theorem dL_end_177 : decode cL_end 177 = .ok (.ifCond .lt 52, 3) := by decide +kernel
theorem dL_end_180 : decode cL_end 180 = .ok (.aload_n 3, 1) := by decide +kernel
theorem dL_end_181 : decode cL_end 181 = .ok (.iload 9, 2) := by decide +kernel
theorem dL_end_183 : decode cL_end 183 = .ok (.iconst 3, 1) := by decide +kernel
theorem dL_end_184 : decode cL_end 184 = .ok (.iconst 3, 1) := by decide +kernel
theorem dL_end_185 : decode cL_end 185 = .ok (.invokestatic 59, 3) := by decide +kernel
theorem dL_end_188 : decode cL_end 188 = .ok (.iconst 2, 1) := by decide +kernel
theorem dL_end_189 : decode cL_end 189 = .ok (.if_icmp .gt 40, 3) := by decide +kernel
theorem dL_end_192 : decode cL_end 192 = .ok (.aload_n 3, 1) := by decide +kernel
theorem dL_end_193 : decode cL_end 193 = .ok (.aload 4, 2) := by decide +kernel
theorem dL_end_195 : decode cL_end 195 = .ok (.iload 9, 2) := by decide +kernel
theorem dL_end_197 : decode cL_end 197 = .ok (.iaload, 1) := by decide +kernel
theorem dL_end_198 : decode cL_end 198 = .ok (.iconst 3, 1) := by decide +kernel
theorem dL_end_199 : decode cL_end 199 = .ok (.iconst 3, 1) := by decide +kernel
theorem dL_end_200 : decode cL_end 200 = .ok (.invokestatic 59, 3) := by decide +kernel
theorem dL_end_203 : decode cL_end 203 = .ok (.iconst 3, 1) := by decide +kernel
theorem dL_end_204 : decode cL_end 204 = .ok (.if_icmp .ge 6, 3) := by decide +kernel
theorem dL_end_207 : decode cL_end 207 = .ok (.goto 22, 3) := by decide +kernel
theorem dL_end_210 : decode cL_end 210 = .ok (.aload_n 3, 1) := by decide +kernel
theorem dL_end_211 : decode cL_end 211 = .ok (.iload 9, 2) := by decide +kernel
theorem dL_end_213 : decode cL_end 213 = .ok (.iconst 3, 1) := by decide +kernel
theorem dL_end_214 : decode cL_end 214 = .ok (.iconst 3, 1) := by decide +kernel
theorem dL_end_215 : decode cL_end 215 = .ok (.bipush 7, 2) := by decide +kernel
theorem dL_end_217 : decode cL_end 217 = .ok (.invokestatic 53, 3) := by decide +kernel
theorem dL_end_220 : decode cL_end 220 = .ok (.aload 5, 2) := by decide +kernel
theorem dL_end_222 : decode cL_end 222 = .ok (.iload 9, 2) := by decide +kernel
theorem dL_end_224 : decode cL_end 224 = .ok (.aload 6, 2) := by decide +kernel
theorem dL_end_226 : decode cL_end 226 = .ok (.iconst 0, 1) := by decide +kernel
theorem dL_end_227 : decode cL_end 227 = .ok (.iaload, 1) := by decide +kernel
theorem dL_end_228 : decode cL_end 228 = .ok (.iastore, 1) := by decide +kernel
theorem dL_end_229 : decode cL_end 229 = .ok (.iinc 9 1, 3) := by decide +kernel
theorem dL_end_232 : decode cL_end 232 = .ok (.goto (-69), 3) := by decide +kernel
theorem dL_end_235 : decode cL_end 235 = .ok (.return_, 1) := by decide +kernel
theorem dL_fault_0 : decode cL_fault 0 = .ok (.aload_n 1, 1) := by decide +kernel
theorem dL_fault_1 : decode cL_fault 1 = .ok (.bipush 10, 2) := by decide +kernel
theorem dL_fault_3 : decode cL_fault 3 = .ok (.iload_n 0, 1) := by decide +kernel
theorem dL_fault_4 : decode cL_fault 4 = .ok (.imul, 1) := by decide +kernel
theorem dL_fault_5 : decode cL_fault 5 = .ok (.bipush 8, 2) := by decide +kernel
theorem dL_fault_7 : decode cL_fault 7 = .ok (.iadd, 1) := by decide +kernel
theorem dL_fault_8 : decode cL_fault 8 = .ok (.dup2, 1) := by decide +kernel
theorem dL_fault_9 : decode cL_fault 9 = .ok (.iaload, 1) := by decide +kernel
theorem dL_fault_10 : decode cL_fault 10 = .ok (.iconst 1, 1) := by decide +kernel
theorem dL_fault_11 : decode cL_fault 11 = .ok (.iadd, 1) := by decide +kernel
theorem dL_fault_12 : decode cL_fault 12 = .ok (.iastore, 1) := by decide +kernel
theorem dL_fault_13 : decode cL_fault 13 = .ok (.aload_n 1, 1) := by decide +kernel
theorem dL_fault_14 : decode cL_fault 14 = .ok (.bipush 10, 2) := by decide +kernel
theorem dL_fault_16 : decode cL_fault 16 = .ok (.iload_n 0, 1) := by decide +kernel
theorem dL_fault_17 : decode cL_fault 17 = .ok (.imul, 1) := by decide +kernel
theorem dL_fault_18 : decode cL_fault 18 = .ok (.bipush 8, 2) := by decide +kernel
theorem dL_fault_20 : decode cL_fault 20 = .ok (.iadd, 1) := by decide +kernel
theorem dL_fault_21 : decode cL_fault 21 = .ok (.iaload, 1) := by decide +kernel
theorem dL_fault_22 : decode cL_fault 22 = .ok (.iconst 3, 1) := by decide +kernel
theorem dL_fault_23 : decode cL_fault 23 = .ok (.if_icmp .ge 4, 3) := by decide +kernel
theorem dL_fault_26 : decode cL_fault 26 = .ok (.return_, 1) := by decide +kernel
theorem dL_fault_27 : decode cL_fault 27 = .ok (.aload_n 1, 1) := by decide +kernel
theorem dL_fault_28 : decode cL_fault 28 = .ok (.bipush 10, 2) := by decide +kernel
theorem dL_fault_30 : decode cL_fault 30 = .ok (.iload_n 0, 1) := by decide +kernel
theorem dL_fault_31 : decode cL_fault 31 = .ok (.imul, 1) := by decide +kernel
theorem dL_fault_32 : decode cL_fault 32 = .ok (.bipush 8, 2) := by decide +kernel
theorem dL_fault_34 : decode cL_fault 34 = .ok (.iadd, 1) := by decide +kernel
