theorem dX0_init_0 : decode cX0_init 0 = .ok (.aload_n 0, 1) := by decide +kernel
theorem dX0_init_1 : decode cX0_init 1 = .ok (.invokespecial 3, 3) := by decide +kernel
theorem dX0_init_4 : decode cX0_init 4 = .ok (.aload_n 0, 1) := by decide +kernel
theorem dX0_init_5 : decode cX0_init 5 = .ok (.iconst (-1), 1) := by decide +kernel
theorem dX0_init_6 : decode cX0_init 6 = .ok (.putfield 9, 3) := by decide +kernel
theorem dX0_init_9 : decode cX0_init 9 = .ok (.aload_n 0, 1) := by decide +kernel
theorem dX0_init_10 : decode cX0_init 10 = .ok (.iconst (-1), 1) := by decide +kernel
theorem dX0_init_11 : decode cX0_init 11 = .ok (.putfield 15, 3) := by decide +kernel
theorem dX0_init_14 : decode cX0_init 14 = .ok (.aload_n 0, 1) := by decide +kernel
theorem dX0_init_15 : decode cX0_init 15 = .ok (.iload_n 1, 1) := by decide +kernel
theorem dX0_init_16 : decode cX0_init 16 = .ok (.putfield 18, 3) := by decide +kernel
theorem dX0_init_19 : decode cX0_init 19 = .ok (.aload_n 0, 1) := by decide +kernel
theorem dX0_init_20 : decode cX0_init 20 = .ok (.aload_n 2, 1) := by decide +kernel
theorem dX0_init_21 : decode cX0_init 21 = .ok (.putfield 21, 3) := by decide +kernel
theorem dX0_init_24 : decode cX0_init 24 = .ok (.aload_n 0, 1) := by decide +kernel
theorem dX0_init_25 : decode cX0_init 25 = .ok (.aload_n 3, 1) := by decide +kernel
theorem dX0_init_26 : decode cX0_init 26 = .ok (.putfield 25, 3) := by decide +kernel
theorem dX0_init_29 : decode cX0_init 29 = .ok (.aload_n 0, 1) := by decide +kernel
theorem dX0_init_30 : decode cX0_init 30 = .ok (.iload 4, 2) := by decide +kernel
theorem dX0_init_32 : decode cX0_init 32 = .ok (.putfield 29, 3) := by decide +kernel
theorem dX0_init_35 : decode cX0_init 35 = .ok (.return_, 1) := by decide +kernel
theorem dX0_isOver_0 : decode cX0_isOver 0 = .ok (.aload_n 0, 1) := by decide +kernel
theorem dX0_isOver_1 : decode cX0_isOver 1 = .ok (.getfield 9, 3) := by decide +kernel
theorem dX0_isOver_4 : decode cX0_isOver 4 = .ok (.iconst 3, 1) := by decide +kernel
theorem dX0_isOver_5 : decode cX0_isOver 5 = .ok (.if_icmp .lt 7, 3) := by decide +kernel
theorem dX0_isOver_8 : decode cX0_isOver 8 = .ok (.iconst 1, 1) := by decide +kernel
theorem dX0_isOver_9 : decode cX0_isOver 9 = .ok (.goto 4, 3) := by decide +kernel
theorem dX0_isOver_12 : decode cX0_isOver 12 = .ok (.iconst 0, 1) := by decide +kernel
theorem dX0_isOver_13 : decode cX0_isOver 13 = .ok (.ireturn, 1) := by decide +kernel
theorem dX0_isOf_0 : decode cX0_isOf 0 = .ok (.aload_n 0, 1) := by decide +kernel
theorem dX0_isOf_1 : decode cX0_isOf 1 = .ok (.getfield 21, 3) := by decide +kernel
theorem dX0_isOf_4 : decode cX0_isOf 4 = .ok (.aload_n 1, 1) := by decide +kernel
theorem dX0_isOf_5 : decode cX0_isOf 5 = .ok (.if_acmp .ne 15, 3) := by decide +kernel
theorem dX0_isOf_8 : decode cX0_isOf 8 = .ok (.aload_n 0, 1) := by decide +kernel
theorem dX0_isOf_9 : decode cX0_isOf 9 = .ok (.getfield 9, 3) := by decide +kernel
theorem dX0_isOf_12 : decode cX0_isOf 12 = .ok (.iload_n 2, 1) := by decide +kernel
theorem dX0_isOf_13 : decode cX0_isOf 13 = .ok (.if_icmp .ne 7, 3) := by decide +kernel
theorem dX0_isOf_16 : decode cX0_isOf 16 = .ok (.iconst 1, 1) := by decide +kernel
theorem dX0_isOf_17 : decode cX0_isOf 17 = .ok (.goto 4, 3) := by decide +kernel
theorem dX0_isOf_20 : decode cX0_isOf 20 = .ok (.iconst 0, 1) := by decide +kernel
theorem dX0_isOf_21 : decode cX0_isOf 21 = .ok (.ireturn, 1) := by decide +kernel
theorem dX0_isBelow_0 : decode cX0_isBelow 0 = .ok (.aload_n 0, 1) := by decide +kernel
theorem dX0_isBelow_1 : decode cX0_isBelow 1 = .ok (.getfield 25, 3) := by decide +kernel
theorem dX0_isBelow_4 : decode cX0_isBelow 4 = .ok (.astore_n 2, 1) := by decide +kernel
theorem dX0_isBelow_5 : decode cX0_isBelow 5 = .ok (.aload_n 2, 1) := by decide +kernel
theorem dX0_isBelow_6 : decode cX0_isBelow 6 = .ok (.ifnull 18, 3) := by decide +kernel
theorem dX0_isBelow_9 : decode cX0_isBelow 9 = .ok (.aload_n 2, 1) := by decide +kernel
theorem dX0_isBelow_10 : decode cX0_isBelow 10 = .ok (.aload_n 1, 1) := by decide +kernel
theorem dX0_isBelow_11 : decode cX0_isBelow 11 = .ok (.if_acmp .ne 5, 3) := by decide +kernel
theorem dX0_isBelow_14 : decode cX0_isBelow 14 = .ok (.iconst 1, 1) := by decide +kernel
theorem dX0_isBelow_15 : decode cX0_isBelow 15 = .ok (.ireturn, 1) := by decide +kernel
theorem dX0_isBelow_16 : decode cX0_isBelow 16 = .ok (.aload_n 2, 1) := by decide +kernel
theorem dX0_isBelow_17 : decode cX0_isBelow 17 = .ok (.getfield 25, 3) := by decide +kernel
theorem dX0_isBelow_20 : decode cX0_isBelow 20 = .ok (.astore_n 2, 1) := by decide +kernel
theorem dX0_isBelow_21 : decode cX0_isBelow 21 = .ok (.goto (-16), 3) := by decide +kernel
theorem dX0_isBelow_24 : decode cX0_isBelow 24 = .ok (.iconst 0, 1) := by decide +kernel
theorem dX0_isBelow_25 : decode cX0_isBelow 25 = .ok (.ireturn, 1) := by decide +kernel
theorem dX0_canBeDone_0 : decode cX0_canBeDone 0 = .ok (.aload_n 0, 1) := by decide +kernel
theorem dX0_canBeDone_1 : decode cX0_canBeDone 1 = .ok (.getfield 29, 3) := by decide +kernel
theorem dX0_canBeDone_4 : decode cX0_canBeDone 4 = .ok (.iload_n 1, 1) := by decide +kernel
theorem dX0_canBeDone_5 : decode cX0_canBeDone 5 = .ok (.isub, 1) := by decide +kernel
theorem dX0_canBeDone_6 : decode cX0_canBeDone 6 = .ok (.aload_n 0, 1) := by decide +kernel
theorem dX0_canBeDone_7 : decode cX0_canBeDone 7 = .ok (.getfield 21, 3) := by decide +kernel
theorem dX0_canBeDone_10 : decode cX0_canBeDone 10 = .ok (.getfield 32, 3) := by decide +kernel
theorem dX0_canBeDone_13 : decode cX0_canBeDone 13 = .ok (.if_icmp .lt 7, 3) := by decide +kernel
theorem dX0_canBeDone_16 : decode cX0_canBeDone 16 = .ok (.iconst 1, 1) := by decide +kernel
theorem dX0_canBeDone_17 : decode cX0_canBeDone 17 = .ok (.goto 4, 3) := by decide +kernel
theorem dX0_canBeDone_20 : decode cX0_canBeDone 20 = .ok (.iconst 0, 1) := by decide +kernel
theorem dX0_canBeDone_21 : decode cX0_canBeDone 21 = .ok (.ireturn, 1) := by decide +kernel
theorem dX0_become_0 : decode cX0_become 0 = .ok (.aload_n 0, 1) := by decide +kernel
theorem dX0_become_1 : decode cX0_become 1 = .ok (.getfield 21, 3) := by decide +kernel
theorem dX0_become_4 : decode cX0_become 4 = .ok (.getfield 37, 3) := by decide +kernel
theorem dX0_become_7 : decode cX0_become 7 = .ok (.astore_n 2, 1) := by decide +kernel
theorem dX0_become_8 : decode cX0_become 8 = .ok (.aload_n 0, 1) := by decide +kernel
theorem dX0_become_9 : decode cX0_become 9 = .ok (.getfield 9, 3) := by decide +kernel
theorem dX0_become_12 : decode cX0_become 12 = .ok (.ifCond .lt 22, 3) := by decide +kernel
theorem dX0_become_15 : decode cX0_become 15 = .ok (.aload_n 0, 1) := by decide +kernel
theorem dX0_become_16 : decode cX0_become 16 = .ok (.getfield 9, 3) := by decide +kernel
theorem dX0_become_19 : decode cX0_become 19 = .ok (.aload_n 2, 1) := by decide +kernel
theorem dX0_become_20 : decode cX0_become 20 = .ok (.arraylength, 1) := by decide +kernel
theorem dX0_become_21 : decode cX0_become 21 = .ok (.if_icmp .ge 13, 3) := by decide +kernel
theorem dX0_become_24 : decode cX0_become 24 = .ok (.aload_n 2, 1) := by decide +kernel
theorem dX0_become_25 : decode cX0_become 25 = .ok (.aload_n 0, 1) := by decide +kernel
theorem dX0_become_26 : decode cX0_become 26 = .ok (.getfield 9, 3) := by decide +kernel
theorem dX0_become_29 : decode cX0_become 29 = .ok (.dup2, 1) := by decide +kernel
theorem dX0_become_30 : decode cX0_become 30 = .ok (.iaload, 1) := by decide +kernel
theorem dX0_become_31 : decode cX0_become 31 = .ok (.iconst 1, 1) := by decide +kernel
theorem dX0_become_32 : decode cX0_become 32 = .ok (.isub, 1) := by decide +kernel
theorem dX0_become_33 : decode cX0_become 33 = .ok (.iastore, 1) := by decide +kernel
theorem dX0_become_34 : decode cX0_become 34 = .ok (.iload_n 1, 1) := by decide +kernel
theorem dX0_become_35 : decode cX0_become 35 = .ok (.ifCond .lt 16, 3) := by decide +kernel
theorem dX0_become_38 : decode cX0_become 38 = .ok (.iload_n 1, 1) := by decide +kernel
theorem dX0_become_39 : decode cX0_become 39 = .ok (.aload_n 2, 1) := by decide +kernel
theorem dX0_become_40 : decode cX0_become 40 = .ok (.arraylength, 1) := by decide +kernel
theorem dX0_become_41 : decode cX0_become 41 = .ok (.if_icmp .ge 10, 3) := by decide +kernel
theorem dX0_become_44 : decode cX0_become 44 = .ok (.aload_n 2, 1) := by decide +kernel
theorem dX0_become_45 : decode cX0_become 45 = .ok (.iload_n 1, 1) := by decide +kernel
theorem dX0_become_46 : decode cX0_become 46 = .ok (.dup2, 1) := by decide +kernel
theorem dX0_become_47 : decode cX0_become 47 = .ok (.iaload, 1) := by decide +kernel
theorem dX0_become_48 : decode cX0_become 48 = .ok (.iconst 1, 1) := by decide +kernel
theorem dX0_become_49 : decode cX0_become 49 = .ok (.iadd, 1) := by decide +kernel
theorem dX0_become_50 : decode cX0_become 50 = .ok (.iastore, 1) := by decide +kernel
theorem dX0_become_51 : decode cX0_become 51 = .ok (.aload_n 0, 1) := by decide +kernel
theorem dX0_become_52 : decode cX0_become 52 = .ok (.iload_n 1, 1) := by decide +kernel
theorem dX0_become_53 : decode cX0_become 53 = .ok (.putfield 9, 3) := by decide +kernel
theorem dX0_become_56 : decode cX0_become 56 = .ok (.return_, 1) := by decide +kernel
theorem dX0_rowAt_0 : decode cX0_rowAt 0 = .ok (.aload_n 0, 1) := by decide +kernel
theorem dX0_rowAt_1 : decode cX0_rowAt 1 = .ok (.getfield 21, 3) := by decide +kernel
theorem dX0_rowAt_4 : decode cX0_rowAt 4 = .ok (.getfield 41, 3) := by decide +kernel
theorem dX0_rowAt_7 : decode cX0_rowAt 7 = .ok (.astore_n 2, 1) := by decide +kernel
theorem dX0_rowAt_8 : decode cX0_rowAt 8 = .ok (.iload_n 1, 1) := by decide +kernel
theorem dX0_rowAt_9 : decode cX0_rowAt 9 = .ok (.ifCond .lt 23, 3) := by decide +kernel
theorem dX0_rowAt_12 : decode cX0_rowAt 12 = .ok (.iload_n 1, 1) := by decide +kernel
theorem dX0_rowAt_13 : decode cX0_rowAt 13 = .ok (.aload_n 0, 1) := by decide +kernel
theorem dX0_rowAt_14 : decode cX0_rowAt 14 = .ok (.getfield 45, 3) := by decide +kernel
theorem dX0_rowAt_17 : decode cX0_rowAt 17 = .ok (.if_icmp .ge 15, 3) := by decide +kernel
theorem dX0_rowAt_20 : decode cX0_rowAt 20 = .ok (.iload_n 1, 1) := by decide +kernel
theorem dX0_rowAt_21 : decode cX0_rowAt 21 = .ok (.aload_n 2, 1) := by decide +kernel
theorem dX0_rowAt_22 : decode cX0_rowAt 22 = .ok (.arraylength, 1) := by decide +kernel
theorem dX0_rowAt_23 : decode cX0_rowAt 23 = .ok (.if_icmp .ge 9, 3) := by decide +kernel
theorem dX0_rowAt_26 : decode cX0_rowAt 26 = .ok (.aload_n 2, 1) := by decide +kernel
theorem dX0_rowAt_27 : decode cX0_rowAt 27 = .ok (.iload_n 1, 1) := by decide +kernel
theorem dX0_rowAt_28 : decode cX0_rowAt 28 = .ok (.aaload, 1) := by decide +kernel
theorem dX0_rowAt_29 : decode cX0_rowAt 29 = .ok (.goto 4, 3) := by decide +kernel
theorem dX0_rowAt_32 : decode cX0_rowAt 32 = .ok (.aconst_null, 1) := by decide +kernel
theorem dX0_rowAt_33 : decode cX0_rowAt 33 = .ok (.areturn, 1) := by decide +kernel
theorem dX0_askNow_0 : decode cX0_askNow 0 = .ok (.aload_n 0, 1) := by decide +kernel
theorem dX0_askNow_1 : decode cX0_askNow 1 = .ok (.iconst 2, 1) := by decide +kernel
theorem dX0_askNow_2 : decode cX0_askNow 2 = .ok (.invokevirtual 48, 3) := by decide +kernel
theorem dX0_askNow_5 : decode cX0_askNow 5 = .ok (.aload_n 0, 1) := by decide +kernel
theorem dX0_askNow_6 : decode cX0_askNow 6 = .ok (.aload_n 1, 1) := by decide +kernel
theorem dX0_askNow_7 : decode cX0_askNow 7 = .ok (.putfield 52, 3) := by decide +kernel
theorem dX0_askNow_10 : decode cX0_askNow 10 = .ok (.aload_n 0, 1) := by decide +kernel
theorem dX0_askNow_11 : decode cX0_askNow 11 = .ok (.iload_n 2, 1) := by decide +kernel
theorem dX0_askNow_12 : decode cX0_askNow 12 = .ok (.putfield 55, 3) := by decide +kernel
theorem dX0_askNow_15 : decode cX0_askNow 15 = .ok (.aload_n 0, 1) := by decide +kernel
theorem dX0_askNow_16 : decode cX0_askNow 16 = .ok (.iconst 1, 1) := by decide +kernel
theorem dX0_askNow_17 : decode cX0_askNow 17 = .ok (.putfield 58, 3) := by decide +kernel
theorem dX0_askNow_20 : decode cX0_askNow 20 = .ok (.aload_n 0, 1) := by decide +kernel
theorem dX0_askNow_21 : decode cX0_askNow 21 = .ok (.iconst 0, 1) := by decide +kernel
theorem dX0_askNow_22 : decode cX0_askNow 22 = .ok (.putfield 62, 3) := by decide +kernel
theorem dX0_askNow_25 : decode cX0_askNow 25 = .ok (.aload_n 0, 1) := by decide +kernel
theorem dX0_askNow_26 : decode cX0_askNow 26 = .ok (.iconst 0, 1) := by decide +kernel
theorem dX0_askNow_27 : decode cX0_askNow 27 = .ok (.putfield 65, 3) := by decide +kernel
theorem dX0_askNow_30 : decode cX0_askNow 30 = .ok (.aload_n 0, 1) := by decide +kernel
theorem dX0_askNow_31 : decode cX0_askNow 31 = .ok (.iconst 0, 1) := by decide +kernel
theorem dX0_askNow_32 : decode cX0_askNow 32 = .ok (.putfield 68, 3) := by decide +kernel
theorem dX0_askNow_35 : decode cX0_askNow 35 = .ok (.return_, 1) := by decide +kernel
theorem dX0_noteTry_0 : decode cX0_noteTry 0 = .ok (.aload_n 0, 1) := by decide +kernel
theorem dX0_noteTry_1 : decode cX0_noteTry 1 = .ok (.dup, 1) := by decide +kernel
theorem dX0_noteTry_2 : decode cX0_noteTry 2 = .ok (.getfield 65, 3) := by decide +kernel
theorem dX0_noteTry_5 : decode cX0_noteTry 5 = .ok (.iconst 1, 1) := by decide +kernel
theorem dX0_noteTry_6 : decode cX0_noteTry 6 = .ok (.iadd, 1) := by decide +kernel
theorem dX0_noteTry_7 : decode cX0_noteTry 7 = .ok (.putfield 65, 3) := by decide +kernel
theorem dX0_noteTry_10 : decode cX0_noteTry 10 = .ok (.aload_n 0, 1) := by decide +kernel
theorem dX0_noteTry_11 : decode cX0_noteTry 11 = .ok (.dup, 1) := by decide +kernel
theorem dX0_noteTry_12 : decode cX0_noteTry 12 = .ok (.getfield 71, 3) := by decide +kernel
theorem dX0_noteTry_15 : decode cX0_noteTry 15 = .ok (.iconst 1, 1) := by decide +kernel
theorem dX0_noteTry_16 : decode cX0_noteTry 16 = .ok (.iadd, 1) := by decide +kernel
theorem dX0_noteTry_17 : decode cX0_noteTry 17 = .ok (.putfield 71, 3) := by decide +kernel
theorem dX0_noteTry_20 : decode cX0_noteTry 20 = .ok (.aload_n 0, 1) := by decide +kernel
theorem dX0_noteTry_21 : decode cX0_noteTry 21 = .ok (.iload_n 1, 1) := by decide +kernel
theorem dX0_noteTry_22 : decode cX0_noteTry 22 = .ok (.putfield 74, 3) := by decide +kernel
theorem dX0_noteTry_25 : decode cX0_noteTry 25 = .ok (.return_, 1) := by decide +kernel
theorem dX0_noteTryOver_0 : decode cX0_noteTryOver 0 = .ok (.aload_n 0, 1) := by decide +kernel
theorem dX0_noteTryOver_1 : decode cX0_noteTryOver 1 = .ok (.dup, 1) := by decide +kernel
theorem dX0_noteTryOver_2 : decode cX0_noteTryOver 2 = .ok (.getfield 71, 3) := by decide +kernel
theorem dX0_noteTryOver_5 : decode cX0_noteTryOver 5 = .ok (.iconst 1, 1) := by decide +kernel
theorem dX0_noteTryOver_6 : decode cX0_noteTryOver 6 = .ok (.isub, 1) := by decide +kernel
theorem dX0_noteTryOver_7 : decode cX0_noteTryOver 7 = .ok (.putfield 71, 3) := by decide +kernel
theorem dX0_noteTryOver_10 : decode cX0_noteTryOver 10 = .ok (.iload_n 1, 1) := by decide +kernel
theorem dX0_noteTryOver_11 : decode cX0_noteTryOver 11 = .ok (.iconst 3, 1) := by decide +kernel
theorem dX0_noteTryOver_12 : decode cX0_noteTryOver 12 = .ok (.if_icmp .ne 8, 3) := by decide +kernel
theorem dX0_noteTryOver_15 : decode cX0_noteTryOver 15 = .ok (.aload_n 0, 1) := by decide +kernel
theorem dX0_noteTryOver_16 : decode cX0_noteTryOver 16 = .ok (.iconst 1, 1) := by decide +kernel
theorem dX0_noteTryOver_17 : decode cX0_noteTryOver 17 = .ok (.putfield 62, 3) := by decide +kernel
theorem dX0_noteTryOver_20 : decode cX0_noteTryOver 20 = .ok (.return_, 1) := by decide +kernel
theorem dX1_init_0 : decode cX1_init 0 = .ok (.aload_n 0, 1) := by decide +kernel
theorem dX1_init_1 : decode cX1_init 1 = .ok (.invokespecial 3, 3) := by decide +kernel
theorem dX1_init_4 : decode cX1_init 4 = .ok (.aload_n 0, 1) := by decide +kernel
theorem dX1_init_5 : decode cX1_init 5 = .ok (.iconst 1, 1) := by decide +kernel
theorem dX1_init_6 : decode cX1_init 6 = .ok (.putfield 9, 3) := by decide +kernel
theorem dX1_init_9 : decode cX1_init 9 = .ok (.aload_n 0, 1) := by decide +kernel
theorem dX1_init_10 : decode cX1_init 10 = .ok (.iconst 2, 1) := by decide +kernel
theorem dX1_init_11 : decode cX1_init 11 = .ok (.putfield 15, 3) := by decide +kernel
theorem dX1_init_14 : decode cX1_init 14 = .ok (.aload_n 0, 1) := by decide +kernel
theorem dX1_init_15 : decode cX1_init 15 = .ok (.iconst 4, 1) := by decide +kernel
theorem dX1_init_16 : decode cX1_init 16 = .ok (.putfield 18, 3) := by decide +kernel
theorem dX1_init_19 : decode cX1_init 19 = .ok (.aload_n 0, 1) := by decide +kernel
theorem dX1_init_20 : decode cX1_init 20 = .ok (.bipush 20, 2) := by decide +kernel
theorem dX1_init_22 : decode cX1_init 22 = .ok (.putfield 21, 3) := by decide +kernel
theorem dX1_init_25 : decode cX1_init 25 = .ok (.aload_n 0, 1) := by decide +kernel
theorem dX1_init_26 : decode cX1_init 26 = .ok (.iconst 3, 1) := by decide +kernel
theorem dX1_init_27 : decode cX1_init 27 = .ok (.anewarray 10, 3) := by decide +kernel
theorem dX1_init_30 : decode cX1_init 30 = .ok (.putfield 24, 3) := by decide +kernel
theorem dX1_init_33 : decode cX1_init 33 = .ok (.aload_n 0, 1) := by decide +kernel
theorem dX1_init_34 : decode cX1_init 34 = .ok (.bipush 8, 2) := by decide +kernel
theorem dX1_init_36 : decode cX1_init 36 = .ok (.newarray .int, 2) := by decide +kernel
theorem dX1_init_38 : decode cX1_init 38 = .ok (.putfield 28, 3) := by decide +kernel
theorem dX1_init_41 : decode cX1_init 41 = .ok (.aload_n 0, 1) := by decide +kernel
theorem dX1_init_42 : decode cX1_init 42 = .ok (.iload_n 1, 1) := by decide +kernel
theorem dX1_init_43 : decode cX1_init 43 = .ok (.putfield 32, 3) := by decide +kernel
theorem dX1_init_46 : decode cX1_init 46 = .ok (.return_, 1) := by decide +kernel
theorem dX1_addToRow_0 : decode cX1_addToRow 0 = .ok (.aload_n 0, 1) := by decide +kernel
theorem dX1_addToRow_1 : decode cX1_addToRow 1 = .ok (.getfield 35, 3) := by decide +kernel
theorem dX1_addToRow_4 : decode cX1_addToRow 4 = .ok (.aload_n 0, 1) := by decide +kernel
theorem dX1_addToRow_5 : decode cX1_addToRow 5 = .ok (.getfield 24, 3) := by decide +kernel
theorem dX1_addToRow_8 : decode cX1_addToRow 8 = .ok (.arraylength, 1) := by decide +kernel
theorem dX1_addToRow_9 : decode cX1_addToRow 9 = .ok (.if_icmp .lt 5, 3) := by decide +kernel
theorem dX1_addToRow_12 : decode cX1_addToRow 12 = .ok (.iconst 0, 1) := by decide +kernel
theorem dX1_addToRow_13 : decode cX1_addToRow 13 = .ok (.ireturn, 1) := by decide +kernel
theorem dX1_addToRow_14 : decode cX1_addToRow 14 = .ok (.aload_n 0, 1) := by decide +kernel
theorem dX1_addToRow_15 : decode cX1_addToRow 15 = .ok (.getfield 24, 3) := by decide +kernel
theorem dX1_addToRow_18 : decode cX1_addToRow 18 = .ok (.aload_n 0, 1) := by decide +kernel
theorem dX1_addToRow_19 : decode cX1_addToRow 19 = .ok (.getfield 35, 3) := by decide +kernel
theorem dX1_addToRow_22 : decode cX1_addToRow 22 = .ok (.aload_n 1, 1) := by decide +kernel
theorem dX1_addToRow_23 : decode cX1_addToRow 23 = .ok (.aastore, 1) := by decide +kernel
theorem dX1_addToRow_24 : decode cX1_addToRow 24 = .ok (.aload_n 0, 1) := by decide +kernel
theorem dX1_addToRow_25 : decode cX1_addToRow 25 = .ok (.dup, 1) := by decide +kernel
theorem dX1_addToRow_26 : decode cX1_addToRow 26 = .ok (.getfield 35, 3) := by decide +kernel
theorem dX1_addToRow_29 : decode cX1_addToRow 29 = .ok (.iconst 1, 1) := by decide +kernel
theorem dX1_addToRow_30 : decode cX1_addToRow 30 = .ok (.iadd, 1) := by decide +kernel
theorem dX1_addToRow_31 : decode cX1_addToRow 31 = .ok (.putfield 35, 3) := by decide +kernel
theorem dX1_addToRow_34 : decode cX1_addToRow 34 = .ok (.iconst 1, 1) := by decide +kernel
theorem dX1_addToRow_35 : decode cX1_addToRow 35 = .ok (.ireturn, 1) := by decide +kernel
theorem dX1_countOf_0 : decode cX1_countOf 0 = .ok (.iload_n 1, 1) := by decide +kernel
theorem dX1_countOf_1 : decode cX1_countOf 1 = .ok (.ifCond .lt 21, 3) := by decide +kernel
theorem dX1_countOf_4 : decode cX1_countOf 4 = .ok (.iload_n 1, 1) := by decide +kernel
theorem dX1_countOf_5 : decode cX1_countOf 5 = .ok (.aload_n 0, 1) := by decide +kernel
theorem dX1_countOf_6 : decode cX1_countOf 6 = .ok (.getfield 28, 3) := by decide +kernel
theorem dX1_countOf_9 : decode cX1_countOf 9 = .ok (.arraylength, 1) := by decide +kernel
theorem dX1_countOf_10 : decode cX1_countOf 10 = .ok (.if_icmp .ge 12, 3) := by decide +kernel
theorem dX1_countOf_13 : decode cX1_countOf 13 = .ok (.aload_n 0, 1) := by decide +kernel
theorem dX1_countOf_14 : decode cX1_countOf 14 = .ok (.getfield 28, 3) := by decide +kernel
theorem dX1_countOf_17 : decode cX1_countOf 17 = .ok (.iload_n 1, 1) := by decide +kernel
theorem dX1_countOf_18 : decode cX1_countOf 18 = .ok (.iaload, 1) := by decide +kernel
theorem dX1_countOf_19 : decode cX1_countOf 19 = .ok (.goto 4, 3) := by decide +kernel
theorem dX1_countOf_22 : decode cX1_countOf 22 = .ok (.iconst 0, 1) := by decide +kernel
theorem dX1_countOf_23 : decode cX1_countOf 23 = .ok (.ireturn, 1) := by decide +kernel
theorem dX1_hasFreeWorker_0 : decode cX1_hasFreeWorker 0 = .ok (.aload_n 0, 1) := by decide +kernel
theorem dX1_hasFreeWorker_1 : decode cX1_hasFreeWorker 1 = .ok (.iconst 1, 1) := by decide +kernel
theorem dX1_hasFreeWorker_2 : decode cX1_hasFreeWorker 2 = .ok (.invokevirtual 38, 3) := by decide +kernel
theorem dX1_hasFreeWorker_5 : decode cX1_hasFreeWorker 5 = .ok (.aload_n 0, 1) := by decide +kernel
theorem dX1_hasFreeWorker_6 : decode cX1_hasFreeWorker 6 = .ok (.getfield 15, 3) := by decide +kernel
theorem dX1_hasFreeWorker_9 : decode cX1_hasFreeWorker 9 = .ok (.if_icmp .ge 7, 3) := by decide +kernel
theorem dX1_hasFreeWorker_12 : decode cX1_hasFreeWorker 12 = .ok (.iconst 1, 1) := by decide +kernel
theorem dX1_hasFreeWorker_13 : decode cX1_hasFreeWorker 13 = .ok (.goto 4, 3) := by decide +kernel
theorem dX1_hasFreeWorker_16 : decode cX1_hasFreeWorker 16 = .ok (.iconst 0, 1) := by decide +kernel
theorem dX1_hasFreeWorker_17 : decode cX1_hasFreeWorker 17 = .ok (.ireturn, 1) := by decide +kernel
theorem dX1_hasRoom_0 : decode cX1_hasRoom 0 = .ok (.aload_n 0, 1) := by decide +kernel
theorem dX1_hasRoom_1 : decode cX1_hasRoom 1 = .ok (.iconst 0, 1) := by decide +kernel
theorem dX1_hasRoom_2 : decode cX1_hasRoom 2 = .ok (.invokevirtual 38, 3) := by decide +kernel
theorem dX1_hasRoom_5 : decode cX1_hasRoom 5 = .ok (.aload_n 0, 1) := by decide +kernel
theorem dX1_hasRoom_6 : decode cX1_hasRoom 6 = .ok (.getfield 18, 3) := by decide +kernel
theorem dX1_hasRoom_9 : decode cX1_hasRoom 9 = .ok (.if_icmp .ge 7, 3) := by decide +kernel
theorem dX1_hasRoom_12 : decode cX1_hasRoom 12 = .ok (.iconst 1, 1) := by decide +kernel
theorem dX1_hasRoom_13 : decode cX1_hasRoom 13 = .ok (.goto 4, 3) := by decide +kernel
theorem dX1_hasRoom_16 : decode cX1_hasRoom 16 = .ok (.iconst 0, 1) := by decide +kernel
theorem dX1_hasRoom_17 : decode cX1_hasRoom 17 = .ok (.ireturn, 1) := by decide +kernel
theorem dX1_refusesAt_0 : decode cX1_refusesAt 0 = .ok (.iload_n 1, 1) := by decide +kernel
theorem dX1_refusesAt_1 : decode cX1_refusesAt 1 = .ok (.aload_n 0, 1) := by decide +kernel
theorem dX1_refusesAt_2 : decode cX1_refusesAt 2 = .ok (.getfield 42, 3) := by decide +kernel
theorem dX1_refusesAt_5 : decode cX1_refusesAt 5 = .ok (.if_icmp .ge 7, 3) := by decide +kernel
theorem dX1_refusesAt_8 : decode cX1_refusesAt 8 = .ok (.iconst 1, 1) := by decide +kernel
theorem dX1_refusesAt_9 : decode cX1_refusesAt 9 = .ok (.goto 4, 3) := by decide +kernel
theorem dX1_refusesAt_12 : decode cX1_refusesAt 12 = .ok (.iconst 0, 1) := by decide +kernel
theorem dX1_refusesAt_13 : decode cX1_refusesAt 13 = .ok (.ireturn, 1) := by decide +kernel
theorem dX1_failsNextWork_0 : decode cX1_failsNextWork 0 = .ok (.aload_n 0, 1) := by decide +kernel
theorem dX1_failsNextWork_1 : decode cX1_failsNextWork 1 = .ok (.dup, 1) := by decide +kernel
theorem dX1_failsNextWork_2 : decode cX1_failsNextWork 2 = .ok (.getfield 45, 3) := by decide +kernel
theorem dX1_failsNextWork_5 : decode cX1_failsNextWork 5 = .ok (.iconst 1, 1) := by decide +kernel
theorem dX1_failsNextWork_6 : decode cX1_failsNextWork 6 = .ok (.iadd, 1) := by decide +kernel
theorem dX1_failsNextWork_7 : decode cX1_failsNextWork 7 = .ok (.putfield 45, 3) := by decide +kernel
theorem dX1_failsNextWork_10 : decode cX1_failsNextWork 10 = .ok (.aload_n 0, 1) := by decide +kernel
theorem dX1_failsNextWork_11 : decode cX1_failsNextWork 11 = .ok (.getfield 48, 3) := by decide +kernel
theorem dX1_failsNextWork_14 : decode cX1_failsNextWork 14 = .ok (.ifCond .le 19, 3) := by decide +kernel
theorem dX1_failsNextWork_17 : decode cX1_failsNextWork 17 = .ok (.aload_n 0, 1) := by decide +kernel
theorem dX1_failsNextWork_18 : decode cX1_failsNextWork 18 = .ok (.getfield 45, 3) := by decide +kernel
theorem dX1_failsNextWork_21 : decode cX1_failsNextWork 21 = .ok (.aload_n 0, 1) := by decide +kernel
theorem dX1_failsNextWork_22 : decode cX1_failsNextWork 22 = .ok (.getfield 48, 3) := by decide +kernel
theorem dX1_failsNextWork_25 : decode cX1_failsNextWork 25 = .ok (.irem, 1) := by decide +kernel
theorem dX1_failsNextWork_26 : decode cX1_failsNextWork 26 = .ok (.ifCond .ne 7, 3) := by decide +kernel
theorem dX1_failsNextWork_29 : decode cX1_failsNextWork 29 = .ok (.iconst 1, 1) := by decide +kernel
theorem dX1_failsNextWork_30 : decode cX1_failsNextWork 30 = .ok (.goto 4, 3) := by decide +kernel
theorem dX1_failsNextWork_33 : decode cX1_failsNextWork 33 = .ok (.iconst 0, 1) := by decide +kernel
theorem dX1_failsNextWork_34 : decode cX1_failsNextWork 34 = .ok (.ireturn, 1) := by decide +kernel
theorem dX1_isTooLong_0 : decode cX1_isTooLong 0 = .ok (.aload_n 0, 1) := by decide +kernel
theorem dX1_isTooLong_1 : decode cX1_isTooLong 1 = .ok (.getfield 51, 3) := by decide +kernel
theorem dX1_isTooLong_4 : decode cX1_isTooLong 4 = .ok (.ifCond .le 15, 3) := by decide +kernel
theorem dX1_isTooLong_7 : decode cX1_isTooLong 7 = .ok (.iload_n 1, 1) := by decide +kernel
theorem dX1_isTooLong_8 : decode cX1_isTooLong 8 = .ok (.aload_n 0, 1) := by decide +kernel
theorem dX1_isTooLong_9 : decode cX1_isTooLong 9 = .ok (.getfield 51, 3) := by decide +kernel
theorem dX1_isTooLong_12 : decode cX1_isTooLong 12 = .ok (.if_icmp .lt 7, 3) := by decide +kernel
theorem dX1_isTooLong_15 : decode cX1_isTooLong 15 = .ok (.iconst 1, 1) := by decide +kernel
theorem dX1_isTooLong_16 : decode cX1_isTooLong 16 = .ok (.goto 4, 3) := by decide +kernel
theorem dX1_isTooLong_19 : decode cX1_isTooLong 19 = .ok (.iconst 0, 1) := by decide +kernel
theorem dX1_isTooLong_20 : decode cX1_isTooLong 20 = .ok (.ireturn, 1) := by decide +kernel
theorem dX1_payForTry_0 : decode cX1_payForTry 0 = .ok (.aload_n 0, 1) := by decide +kernel
theorem dX1_payForTry_1 : decode cX1_payForTry 1 = .ok (.getfield 21, 3) := by decide +kernel
theorem dX1_payForTry_4 : decode cX1_payForTry 4 = .ok (.bipush 10, 2) := by decide +kernel
theorem dX1_payForTry_6 : decode cX1_payForTry 6 = .ok (.if_icmp .ge 5, 3) := by decide +kernel
theorem dX1_payForTry_9 : decode cX1_payForTry 9 = .ok (.iconst 0, 1) := by decide +kernel
theorem dX1_payForTry_10 : decode cX1_payForTry 10 = .ok (.ireturn, 1) := by decide +kernel
theorem dX1_payForTry_11 : decode cX1_payForTry 11 = .ok (.aload_n 0, 1) := by decide +kernel
theorem dX1_payForTry_12 : decode cX1_payForTry 12 = .ok (.dup, 1) := by decide +kernel
theorem dX1_payForTry_13 : decode cX1_payForTry 13 = .ok (.getfield 21, 3) := by decide +kernel
theorem dX1_payForTry_16 : decode cX1_payForTry 16 = .ok (.bipush 10, 2) := by decide +kernel
theorem dX1_payForTry_18 : decode cX1_payForTry 18 = .ok (.isub, 1) := by decide +kernel
theorem dX1_payForTry_19 : decode cX1_payForTry 19 = .ok (.putfield 21, 3) := by decide +kernel
theorem dX1_payForTry_22 : decode cX1_payForTry 22 = .ok (.iconst 1, 1) := by decide +kernel
theorem dX1_payForTry_23 : decode cX1_payForTry 23 = .ok (.ireturn, 1) := by decide +kernel
theorem dX1_noteDone_0 : decode cX1_noteDone 0 = .ok (.aload_n 0, 1) := by decide +kernel
theorem dX1_noteDone_1 : decode cX1_noteDone 1 = .ok (.getfield 21, 3) := by decide +kernel
theorem dX1_noteDone_4 : decode cX1_noteDone 4 = .ok (.bipush 50, 2) := by decide +kernel
theorem dX1_noteDone_6 : decode cX1_noteDone 6 = .ok (.if_icmp .ge 13, 3) := by decide +kernel
theorem dX1_noteDone_9 : decode cX1_noteDone 9 = .ok (.aload_n 0, 1) := by decide +kernel
theorem dX1_noteDone_10 : decode cX1_noteDone 10 = .ok (.dup, 1) := by decide +kernel
theorem dX1_noteDone_11 : decode cX1_noteDone 11 = .ok (.getfield 21, 3) := by decide +kernel
theorem dX1_noteDone_14 : decode cX1_noteDone 14 = .ok (.iconst 1, 1) := by decide +kernel
theorem dX1_noteDone_15 : decode cX1_noteDone 15 = .ok (.iadd, 1) := by decide +kernel
theorem dX1_noteDone_16 : decode cX1_noteDone 16 = .ok (.putfield 21, 3) := by decide +kernel
theorem dX1_noteDone_19 : decode cX1_noteDone 19 = .ok (.aload_n 0, 1) := by decide +kernel
theorem dX1_noteDone_20 : decode cX1_noteDone 20 = .ok (.iconst 0, 1) := by decide +kernel
theorem dX1_noteDone_21 : decode cX1_noteDone 21 = .ok (.putfield 54, 3) := by decide +kernel
theorem dX1_noteDone_24 : decode cX1_noteDone 24 = .ok (.return_, 1) := by decide +kernel
theorem dX1_noteTrouble_0 : decode cX1_noteTrouble 0 = .ok (.aload_n 0, 1) := by decide +kernel
theorem dX1_noteTrouble_1 : decode cX1_noteTrouble 1 = .ok (.dup, 1) := by decide +kernel
theorem dX1_noteTrouble_2 : decode cX1_noteTrouble 2 = .ok (.getfield 54, 3) := by decide +kernel
theorem dX1_noteTrouble_5 : decode cX1_noteTrouble 5 = .ok (.iconst 1, 1) := by decide +kernel
theorem dX1_noteTrouble_6 : decode cX1_noteTrouble 6 = .ok (.iadd, 1) := by decide +kernel
theorem dX1_noteTrouble_7 : decode cX1_noteTrouble 7 = .ok (.putfield 54, 3) := by decide +kernel
theorem dX1_noteTrouble_10 : decode cX1_noteTrouble 10 = .ok (.aload_n 0, 1) := by decide +kernel
theorem dX1_noteTrouble_11 : decode cX1_noteTrouble 11 = .ok (.getfield 54, 3) := by decide +kernel
theorem dX1_noteTrouble_14 : decode cX1_noteTrouble 14 = .ok (.iconst 3, 1) := by decide +kernel
theorem dX1_noteTrouble_15 : decode cX1_noteTrouble 15 = .ok (.if_icmp .lt 16, 3) := by decide +kernel
theorem dX1_noteTrouble_18 : decode cX1_noteTrouble 18 = .ok (.aload_n 0, 1) := by decide +kernel
theorem dX1_noteTrouble_19 : decode cX1_noteTrouble 19 = .ok (.iconst 0, 1) := by decide +kernel
theorem dX1_noteTrouble_20 : decode cX1_noteTrouble 20 = .ok (.putfield 54, 3) := by decide +kernel
theorem dX1_noteTrouble_23 : decode cX1_noteTrouble 23 = .ok (.aload_n 0, 1) := by decide +kernel
theorem dX1_noteTrouble_24 : decode cX1_noteTrouble 24 = .ok (.iload_n 1, 1) := by decide +kernel
theorem dX1_noteTrouble_25 : decode cX1_noteTrouble 25 = .ok (.bipush 20, 2) := by decide +kernel
theorem dX1_noteTrouble_27 : decode cX1_noteTrouble 27 = .ok (.iadd, 1) := by decide +kernel
theorem dX1_noteTrouble_28 : decode cX1_noteTrouble 28 = .ok (.putfield 42, 3) := by decide +kernel
theorem dX1_noteTrouble_31 : decode cX1_noteTrouble 31 = .ok (.return_, 1) := by decide +kernel
theorem dX2_init_0 : decode cX2_init 0 = .ok (.aload_n 0, 1) := by decide +kernel
theorem dX2_init_1 : decode cX2_init 1 = .ok (.invokespecial 1, 3) := by decide +kernel
theorem dX2_init_4 : decode cX2_init 4 = .ok (.aload_n 0, 1) := by decide +kernel
theorem dX2_init_5 : decode cX2_init 5 = .ok (.bipush 6, 2) := by decide +kernel
theorem dX2_init_7 : decode cX2_init 7 = .ok (.anewarray 9, 3) := by decide +kernel
theorem dX2_init_10 : decode cX2_init 10 = .ok (.putfield 11, 3) := by decide +kernel
theorem dX2_init_13 : decode cX2_init 13 = .ok (.aload_n 0, 1) := by decide +kernel
theorem dX2_init_14 : decode cX2_init 14 = .ok (.sipush 200, 3) := by decide +kernel
theorem dX2_init_17 : decode cX2_init 17 = .ok (.anewarray 15, 3) := by decide +kernel
theorem dX2_init_20 : decode cX2_init 20 = .ok (.putfield 17, 3) := by decide +kernel
theorem dX2_init_23 : decode cX2_init 23 = .ok (.iconst 0, 1) := by decide +kernel
theorem dX2_init_24 : decode cX2_init 24 = .ok (.istore_n 1, 1) := by decide +kernel
theorem dX2_init_25 : decode cX2_init 25 = .ok (.iload_n 1, 1) := by decide +kernel
theorem dX2_init_26 : decode cX2_init 26 = .ok (.aload_n 0, 1) := by decide +kernel
theorem dX2_init_27 : decode cX2_init 27 = .ok (.getfield 11, 3) := by decide +kernel
theorem dX2_init_30 : decode cX2_init 30 = .ok (.arraylength, 1) := by decide +kernel
theorem dX2_init_31 : decode cX2_init 31 = .ok (.if_icmp .ge 23, 3) := by decide +kernel
theorem dX2_init_34 : decode cX2_init 34 = .ok (.aload_n 0, 1) := by decide +kernel
theorem dX2_init_35 : decode cX2_init 35 = .ok (.getfield 11, 3) := by decide +kernel
theorem dX2_init_38 : decode cX2_init 38 = .ok (.iload_n 1, 1) := by decide +kernel
theorem dX2_init_39 : decode cX2_init 39 = .ok (.new 9, 3) := by decide +kernel
theorem dX2_init_42 : decode cX2_init 42 = .ok (.dup, 1) := by decide +kernel
theorem dX2_init_43 : decode cX2_init 43 = .ok (.iload_n 1, 1) := by decide +kernel
theorem dX2_init_44 : decode cX2_init 44 = .ok (.invokespecial 21, 3) := by decide +kernel
theorem dX2_init_47 : decode cX2_init 47 = .ok (.aastore, 1) := by decide +kernel
theorem dX2_init_48 : decode cX2_init 48 = .ok (.iinc 1 1, 3) := by decide +kernel
theorem dX2_init_51 : decode cX2_init 51 = .ok (.goto (-26), 3) := by decide +kernel
theorem dX2_init_54 : decode cX2_init 54 = .ok (.return_, 1) := by decide +kernel
theorem dX2_setWork_0 : decode cX2_setWork 0 = .ok (.aload_n 0, 1) := by decide +kernel
theorem dX2_setWork_1 : decode cX2_setWork 1 = .ok (.iload_n 1, 1) := by decide +kernel
theorem dX2_setWork_2 : decode cX2_setWork 2 = .ok (.invokevirtual 24, 3) := by decide +kernel
theorem dX2_setWork_5 : decode cX2_setWork 5 = .ok (.astore 4, 2) := by decide +kernel
theorem dX2_setWork_7 : decode cX2_setWork 7 = .ok (.iload_n 2, 1) := by decide +kernel
theorem dX2_setWork_8 : decode cX2_setWork 8 = .ok (.iconst 1, 1) := by decide +kernel
theorem dX2_setWork_9 : decode cX2_setWork 9 = .ok (.bipush 20, 2) := by decide +kernel
theorem dX2_setWork_11 : decode cX2_setWork 11 = .ok (.invokestatic 28, 3) := by decide +kernel
theorem dX2_setWork_14 : decode cX2_setWork 14 = .ok (.iload_n 3, 1) := by decide +kernel
theorem dX2_setWork_15 : decode cX2_setWork 15 = .ok (.iconst 0, 1) := by decide +kernel
theorem dX2_setWork_16 : decode cX2_setWork 16 = .ok (.bipush 20, 2) := by decide +kernel
theorem dX2_setWork_18 : decode cX2_setWork 18 = .ok (.invokestatic 28, 3) := by decide +kernel
theorem dX2_setWork_21 : decode cX2_setWork 21 = .ok (.aload 4, 2) := by decide +kernel
theorem dX2_setWork_23 : decode cX2_setWork 23 = .ok (.getfield 32, 3) := by decide +kernel
theorem dX2_setWork_26 : decode cX2_setWork 26 = .ok (.istore 5, 2) := by decide +kernel
theorem dX2_setWork_28 : decode cX2_setWork 28 = .ok (.aload 4, 2) := by decide +kernel
theorem dX2_setWork_30 : decode cX2_setWork 30 = .ok (.iload_n 2, 1) := by decide +kernel
theorem dX2_setWork_31 : decode cX2_setWork 31 = .ok (.putfield 32, 3) := by decide +kernel
theorem dX2_setWork_34 : decode cX2_setWork 34 = .ok (.aload 4, 2) := by decide +kernel
theorem dX2_setWork_36 : decode cX2_setWork 36 = .ok (.iload_n 3, 1) := by decide +kernel
theorem dX2_setWork_37 : decode cX2_setWork 37 = .ok (.putfield 36, 3) := by decide +kernel
theorem dX2_setWork_40 : decode cX2_setWork 40 = .ok (.aload 4, 2) := by decide +kernel
theorem dX2_setWork_42 : decode cX2_setWork 42 = .ok (.iconst 0, 1) := by decide +kernel
theorem dX2_setWork_43 : decode cX2_setWork 43 = .ok (.putfield 39, 3) := by decide +kernel
theorem dX2_setWork_46 : decode cX2_setWork 46 = .ok (.iload 5, 2) := by decide +kernel
theorem dX2_setWork_48 : decode cX2_setWork 48 = .ok (.ireturn, 1) := by decide +kernel
theorem dX2_ask_0 : decode cX2_ask 0 = .ok (.aload_n 0, 1) := by decide +kernel
theorem dX2_ask_1 : decode cX2_ask 1 = .ok (.iload_n 1, 1) := by decide +kernel
theorem dX2_ask_2 : decode cX2_ask 2 = .ok (.invokevirtual 24, 3) := by decide +kernel
theorem dX2_ask_5 : decode cX2_ask 5 = .ok (.astore_n 3, 1) := by decide +kernel
theorem dX2_ask_6 : decode cX2_ask 6 = .ok (.aload_n 0, 1) := by decide +kernel
theorem dX2_ask_7 : decode cX2_ask 7 = .ok (.iload_n 2, 1) := by decide +kernel
theorem dX2_ask_8 : decode cX2_ask 8 = .ok (.invokevirtual 24, 3) := by decide +kernel
theorem dX2_ask_11 : decode cX2_ask 11 = .ok (.astore 4, 2) := by decide +kernel
theorem dX2_ask_13 : decode cX2_ask 13 = .ok (.iload_n 2, 1) := by decide +kernel
theorem dX2_ask_14 : decode cX2_ask 14 = .ok (.iload_n 1, 1) := by decide +kernel
theorem dX2_ask_15 : decode cX2_ask 15 = .ok (.if_icmp .gt 13, 3) := by decide +kernel
theorem dX2_ask_18 : decode cX2_ask 18 = .ok (.new 42, 3) := by decide +kernel
theorem dX2_ask_21 : decode cX2_ask 21 = .ok (.dup, 1) := by decide +kernel
theorem dX2_ask_22 : decode cX2_ask 22 = .ok (.ldc 44, 2) := by decide +kernel
theorem dX2_ask_24 : decode cX2_ask 24 = .ok (.invokespecial 46, 3) := by decide +kernel
theorem dX2_ask_27 : decode cX2_ask 27 = .ok (.athrow, 1) := by decide +kernel
theorem dX2_ask_28 : decode cX2_ask 28 = .ok (.aload_n 3, 1) := by decide +kernel
theorem dX2_ask_29 : decode cX2_ask 29 = .ok (.aload 4, 2) := by decide +kernel
theorem dX2_ask_31 : decode cX2_ask 31 = .ok (.invokevirtual 49, 3) := by decide +kernel
theorem dX2_ask_34 : decode cX2_ask 34 = .ok (.ifCond .ne 13, 3) := by decide +kernel
theorem dX2_ask_37 : decode cX2_ask 37 = .ok (.new 53, 3) := by decide +kernel
theorem dX2_ask_40 : decode cX2_ask 40 = .ok (.dup, 1) := by decide +kernel
theorem dX2_ask_41 : decode cX2_ask 41 = .ok (.ldc 55, 2) := by decide +kernel
theorem dX2_ask_43 : decode cX2_ask 43 = .ok (.invokespecial 57, 3) := by decide +kernel
theorem dX2_ask_46 : decode cX2_ask 46 = .ok (.athrow, 1) := by decide +kernel
theorem dX2_ask_47 : decode cX2_ask 47 = .ok (.aload_n 3, 1) := by decide +kernel
theorem dX2_ask_48 : decode cX2_ask 48 = .ok (.getfield 58, 3) := by decide +kernel
theorem dX2_ask_51 : decode cX2_ask 51 = .ok (.ireturn, 1) := by decide +kernel
theorem dX2_setRoom_0 : decode cX2_setRoom 0 = .ok (.aload_n 0, 1) := by decide +kernel
theorem dX2_setRoom_1 : decode cX2_setRoom 1 = .ok (.iload_n 1, 1) := by decide +kernel
theorem dX2_setRoom_2 : decode cX2_setRoom 2 = .ok (.invokevirtual 24, 3) := by decide +kernel
theorem dX2_setRoom_5 : decode cX2_setRoom 5 = .ok (.astore 5, 2) := by decide +kernel
theorem dX2_setRoom_7 : decode cX2_setRoom 7 = .ok (.iload_n 2, 1) := by decide +kernel
theorem dX2_setRoom_8 : decode cX2_setRoom 8 = .ok (.iconst 1, 1) := by decide +kernel
theorem dX2_setRoom_9 : decode cX2_setRoom 9 = .ok (.iconst 5, 1) := by decide +kernel
theorem dX2_setRoom_10 : decode cX2_setRoom 10 = .ok (.invokestatic 28, 3) := by decide +kernel
theorem dX2_setRoom_13 : decode cX2_setRoom 13 = .ok (.iload_n 3, 1) := by decide +kernel
theorem dX2_setRoom_14 : decode cX2_setRoom 14 = .ok (.iconst 0, 1) := by decide +kernel
theorem dX2_setRoom_15 : decode cX2_setRoom 15 = .ok (.bipush 8, 2) := by decide +kernel
theorem dX2_setRoom_17 : decode cX2_setRoom 17 = .ok (.invokestatic 28, 3) := by decide +kernel
theorem dX2_setRoom_20 : decode cX2_setRoom 20 = .ok (.iload 4, 2) := by decide +kernel
theorem dX2_setRoom_22 : decode cX2_setRoom 22 = .ok (.iconst 0, 1) := by decide +kernel
theorem dX2_setRoom_23 : decode cX2_setRoom 23 = .ok (.bipush 50, 2) := by decide +kernel
theorem dX2_setRoom_25 : decode cX2_setRoom 25 = .ok (.invokestatic 28, 3) := by decide +kernel
theorem dX2_setRoom_28 : decode cX2_setRoom 28 = .ok (.aload 5, 2) := by decide +kernel
theorem dX2_setRoom_30 : decode cX2_setRoom 30 = .ok (.getfield 61, 3) := by decide +kernel
theorem dX2_setRoom_33 : decode cX2_setRoom 33 = .ok (.istore 6, 2) := by decide +kernel
theorem dX2_setRoom_35 : decode cX2_setRoom 35 = .ok (.aload 5, 2) := by decide +kernel
theorem dX2_setRoom_37 : decode cX2_setRoom 37 = .ok (.iload_n 2, 1) := by decide +kernel
theorem dX2_setRoom_38 : decode cX2_setRoom 38 = .ok (.putfield 61, 3) := by decide +kernel
theorem dX2_setRoom_41 : decode cX2_setRoom 41 = .ok (.aload 5, 2) := by decide +kernel
theorem dX2_setRoom_43 : decode cX2_setRoom 43 = .ok (.iload_n 3, 1) := by decide +kernel
theorem dX2_setRoom_44 : decode cX2_setRoom 44 = .ok (.putfield 64, 3) := by decide +kernel
theorem dX2_setRoom_47 : decode cX2_setRoom 47 = .ok (.aload 5, 2) := by decide +kernel
theorem dX2_setRoom_49 : decode cX2_setRoom 49 = .ok (.iload 4, 2) := by decide +kernel
theorem dX2_setRoom_51 : decode cX2_setRoom 51 = .ok (.putfield 67, 3) := by decide +kernel
theorem dX2_setRoom_54 : decode cX2_setRoom 54 = .ok (.iload 6, 2) := by decide +kernel
theorem dX2_setRoom_56 : decode cX2_setRoom 56 = .ok (.ireturn, 1) := by decide +kernel
theorem dX2_call_0 : decode cX2_call 0 = .ok (.aload_n 0, 1) := by decide +kernel
theorem dX2_call_1 : decode cX2_call 1 = .ok (.iload_n 1, 1) := by decide +kernel
theorem dX2_call_2 : decode cX2_call 2 = .ok (.invokevirtual 24, 3) := by decide +kernel
theorem dX2_call_5 : decode cX2_call 5 = .ok (.astore_n 3, 1) := by decide +kernel
theorem dX2_call_6 : decode cX2_call 6 = .ok (.iload_n 2, 1) := by decide +kernel
theorem dX2_call_7 : decode cX2_call 7 = .ok (.iconst 1, 1) := by decide +kernel
theorem dX2_call_8 : decode cX2_call 8 = .ok (.bipush 100, 2) := by decide +kernel
theorem dX2_call_10 : decode cX2_call 10 = .ok (.invokestatic 28, 3) := by decide +kernel
theorem dX2_call_13 : decode cX2_call 13 = .ok (.aload_n 0, 1) := by decide +kernel
theorem dX2_call_14 : decode cX2_call 14 = .ok (.invokevirtual 70, 3) := by decide +kernel
theorem dX2_call_17 : decode cX2_call 17 = .ok (.ifCond .eq 13, 3) := by decide +kernel
theorem dX2_call_20 : decode cX2_call 20 = .ok (.new 53, 3) := by decide +kernel
theorem dX2_call_23 : decode cX2_call 23 = .ok (.dup, 1) := by decide +kernel
theorem dX2_call_24 : decode cX2_call 24 = .ok (.ldc 74, 2) := by decide +kernel
theorem dX2_call_26 : decode cX2_call 26 = .ok (.invokespecial 57, 3) := by decide +kernel
theorem dX2_call_29 : decode cX2_call 29 = .ok (.athrow, 1) := by decide +kernel
theorem dX2_call_30 : decode cX2_call 30 = .ok (.aload_n 0, 1) := by decide +kernel
theorem dX2_call_31 : decode cX2_call 31 = .ok (.aload_n 3, 1) := by decide +kernel
theorem dX2_call_32 : decode cX2_call 32 = .ok (.aconst_null, 1) := by decide +kernel
theorem dX2_call_33 : decode cX2_call 33 = .ok (.aload_n 0, 1) := by decide +kernel
theorem dX2_call_34 : decode cX2_call 34 = .ok (.getfield 76, 3) := by decide +kernel
theorem dX2_call_37 : decode cX2_call 37 = .ok (.iload_n 2, 1) := by decide +kernel
theorem dX2_call_38 : decode cX2_call 38 = .ok (.iadd, 1) := by decide +kernel
theorem dX2_call_39 : decode cX2_call 39 = .ok (.invokevirtual 79, 3) := by decide +kernel
theorem dX2_call_42 : decode cX2_call 42 = .ok (.astore 4, 2) := by decide +kernel
theorem dX2_call_44 : decode cX2_call 44 = .ok (.aload_n 0, 1) := by decide +kernel
theorem dX2_call_45 : decode cX2_call 45 = .ok (.aload 4, 2) := by decide +kernel
theorem dX2_call_47 : decode cX2_call 47 = .ok (.invokevirtual 83, 3) := by decide +kernel
theorem dX2_call_50 : decode cX2_call 50 = .ok (.aload 4, 2) := by decide +kernel
theorem dX2_call_52 : decode cX2_call 52 = .ok (.getfield 87, 3) := by decide +kernel
theorem dX2_call_55 : decode cX2_call 55 = .ok (.ireturn, 1) := by decide +kernel
theorem dX2_cancel_0 : decode cX2_cancel 0 = .ok (.aload_n 0, 1) := by decide +kernel
theorem dX2_cancel_1 : decode cX2_cancel 1 = .ok (.iload_n 1, 1) := by decide +kernel
theorem dX2_cancel_2 : decode cX2_cancel 2 = .ok (.invokevirtual 90, 3) := by decide +kernel
theorem dX2_cancel_5 : decode cX2_cancel 5 = .ok (.astore_n 2, 1) := by decide +kernel
theorem dX2_cancel_6 : decode cX2_cancel 6 = .ok (.aload_n 2, 1) := by decide +kernel
theorem dX2_cancel_7 : decode cX2_cancel 7 = .ok (.invokevirtual 94, 3) := by decide +kernel
theorem dX2_cancel_10 : decode cX2_cancel 10 = .ok (.ifCond .ne 10, 3) := by decide +kernel
theorem dX2_cancel_13 : decode cX2_cancel 13 = .ok (.aload_n 2, 1) := by decide +kernel
theorem dX2_cancel_14 : decode cX2_cancel 14 = .ok (.getfield 97, 3) := by decide +kernel
theorem dX2_cancel_17 : decode cX2_cancel 17 = .ok (.ifnull 13, 3) := by decide +kernel
theorem dX2_cancel_20 : decode cX2_cancel 20 = .ok (.new 53, 3) := by decide +kernel
theorem dX2_cancel_23 : decode cX2_cancel 23 = .ok (.dup, 1) := by decide +kernel
theorem dX2_cancel_24 : decode cX2_cancel 24 = .ok (.ldc 101, 2) := by decide +kernel
theorem dX2_cancel_26 : decode cX2_cancel 26 = .ok (.invokespecial 57, 3) := by decide +kernel
theorem dX2_cancel_29 : decode cX2_cancel 29 = .ok (.athrow, 1) := by decide +kernel
theorem dX2_cancel_30 : decode cX2_cancel 30 = .ok (.iconst 1, 1) := by decide +kernel
theorem dX2_cancel_31 : decode cX2_cancel 31 = .ok (.aload_n 0, 1) := by decide +kernel
theorem dX2_cancel_32 : decode cX2_cancel 32 = .ok (.aload_n 2, 1) := by decide +kernel
theorem dX2_cancel_33 : decode cX2_cancel 33 = .ok (.bipush 7, 2) := by decide +kernel
theorem dX2_cancel_35 : decode cX2_cancel 35 = .ok (.invokevirtual 103, 3) := by decide +kernel
theorem dX2_cancel_38 : decode cX2_cancel 38 = .ok (.iadd, 1) := by decide +kernel
theorem dX2_cancel_39 : decode cX2_cancel 39 = .ok (.ireturn, 1) := by decide +kernel
theorem dX2_pass_0 : decode cX2_pass 0 = .ok (.iload_n 1, 1) := by decide +kernel
theorem dX2_pass_1 : decode cX2_pass 1 = .ok (.iconst 1, 1) := by decide +kernel
theorem dX2_pass_2 : decode cX2_pass 2 = .ok (.bipush 100, 2) := by decide +kernel
theorem dX2_pass_4 : decode cX2_pass 4 = .ok (.invokestatic 28, 3) := by decide +kernel
theorem dX2_pass_7 : decode cX2_pass 7 = .ok (.aload_n 0, 1) := by decide +kernel
theorem dX2_pass_8 : decode cX2_pass 8 = .ok (.getfield 107, 3) := by decide +kernel
theorem dX2_pass_11 : decode cX2_pass 11 = .ok (.istore_n 2, 1) := by decide +kernel
theorem dX2_pass_12 : decode cX2_pass 12 = .ok (.iconst 0, 1) := by decide +kernel
theorem dX2_pass_13 : decode cX2_pass 13 = .ok (.istore_n 3, 1) := by decide +kernel
theorem dX2_pass_14 : decode cX2_pass 14 = .ok (.iload_n 3, 1) := by decide +kernel
theorem dX2_pass_15 : decode cX2_pass 15 = .ok (.iload_n 1, 1) := by decide +kernel
theorem dX2_pass_16 : decode cX2_pass 16 = .ok (.if_icmp .ge 43, 3) := by decide +kernel
theorem dX2_pass_19 : decode cX2_pass 19 = .ok (.aload_n 0, 1) := by decide +kernel
theorem dX2_pass_20 : decode cX2_pass 20 = .ok (.dup, 1) := by decide +kernel
theorem dX2_pass_21 : decode cX2_pass 21 = .ok (.getfield 76, 3) := by decide +kernel
theorem dX2_pass_24 : decode cX2_pass 24 = .ok (.iconst 1, 1) := by decide +kernel
theorem dX2_pass_25 : decode cX2_pass 25 = .ok (.iadd, 1) := by decide +kernel
theorem dX2_pass_26 : decode cX2_pass 26 = .ok (.putfield 76, 3) := by decide +kernel
theorem dX2_pass_29 : decode cX2_pass 29 = .ok (.aload_n 0, 1) := by decide +kernel
theorem dX2_pass_30 : decode cX2_pass 30 = .ok (.invokevirtual 110, 3) := by decide +kernel
theorem dX2_pass_33 : decode cX2_pass 33 = .ok (.aload_n 0, 1) := by decide +kernel
theorem dX2_pass_34 : decode cX2_pass 34 = .ok (.invokevirtual 113, 3) := by decide +kernel
theorem dX2_pass_37 : decode cX2_pass 37 = .ok (.aload_n 0, 1) := by decide +kernel
theorem dX2_pass_38 : decode cX2_pass 38 = .ok (.invokevirtual 116, 3) := by decide +kernel
theorem dX2_pass_41 : decode cX2_pass 41 = .ok (.aload_n 0, 1) := by decide +kernel
theorem dX2_pass_42 : decode cX2_pass 42 = .ok (.invokevirtual 119, 3) := by decide +kernel
theorem dX2_pass_45 : decode cX2_pass 45 = .ok (.aload_n 0, 1) := by decide +kernel
theorem dX2_pass_46 : decode cX2_pass 46 = .ok (.invokevirtual 122, 3) := by decide +kernel
theorem dX2_pass_49 : decode cX2_pass 49 = .ok (.aload_n 0, 1) := by decide +kernel
theorem dX2_pass_50 : decode cX2_pass 50 = .ok (.invokevirtual 125, 3) := by decide +kernel
theorem dX2_pass_53 : decode cX2_pass 53 = .ok (.iinc 3 1, 3) := by decide +kernel
theorem dX2_pass_56 : decode cX2_pass 56 = .ok (.goto (-42), 3) := by decide +kernel
theorem dX2_pass_59 : decode cX2_pass 59 = .ok (.aload_n 0, 1) := by decide +kernel
theorem dX2_pass_60 : decode cX2_pass 60 = .ok (.getfield 107, 3) := by decide +kernel
theorem dX2_pass_63 : decode cX2_pass 63 = .ok (.iload_n 2, 1) := by decide +kernel
theorem dX2_pass_64 : decode cX2_pass 64 = .ok (.isub, 1) := by decide +kernel
theorem dX2_pass_65 : decode cX2_pass 65 = .ok (.ireturn, 1) := by decide +kernel
theorem dX2_time_0 : decode cX2_time 0 = .ok (.aload_n 0, 1) := by decide +kernel
theorem dX2_time_1 : decode cX2_time 1 = .ok (.getfield 76, 3) := by decide +kernel
theorem dX2_time_4 : decode cX2_time 4 = .ok (.ireturn, 1) := by decide +kernel
theorem dX2_calls_0 : decode cX2_calls 0 = .ok (.aload_n 0, 1) := by decide +kernel
theorem dX2_calls_1 : decode cX2_calls 1 = .ok (.getfield 128, 3) := by decide +kernel
theorem dX2_calls_4 : decode cX2_calls 4 = .ok (.ireturn, 1) := by decide +kernel
theorem dX2_state_0 : decode cX2_state 0 = .ok (.aload_n 0, 1) := by decide +kernel
theorem dX2_state_1 : decode cX2_state 1 = .ok (.iload_n 1, 1) := by decide +kernel
theorem dX2_state_2 : decode cX2_state 2 = .ok (.invokevirtual 90, 3) := by decide +kernel
theorem dX2_state_5 : decode cX2_state 5 = .ok (.getfield 131, 3) := by decide +kernel
theorem dX2_state_8 : decode cX2_state 8 = .ok (.ireturn, 1) := by decide +kernel
theorem dX2_origin_0 : decode cX2_origin 0 = .ok (.aload_n 0, 1) := by decide +kernel
theorem dX2_origin_1 : decode cX2_origin 1 = .ok (.iload_n 1, 1) := by decide +kernel
theorem dX2_origin_2 : decode cX2_origin 2 = .ok (.invokevirtual 90, 3) := by decide +kernel
theorem dX2_origin_5 : decode cX2_origin 5 = .ok (.astore_n 2, 1) := by decide +kernel
theorem dX2_origin_6 : decode cX2_origin 6 = .ok (.aload_n 2, 1) := by decide +kernel
theorem dX2_origin_7 : decode cX2_origin 7 = .ok (.getfield 97, 3) := by decide +kernel
theorem dX2_origin_10 : decode cX2_origin 10 = .ok (.ifnonnull 7, 3) := by decide +kernel
theorem dX2_origin_13 : decode cX2_origin 13 = .ok (.iconst 0, 1) := by decide +kernel
theorem dX2_origin_14 : decode cX2_origin 14 = .ok (.goto 12, 3) := by decide +kernel
theorem dX2_origin_17 : decode cX2_origin 17 = .ok (.aload_n 2, 1) := by decide +kernel
theorem dX2_origin_18 : decode cX2_origin 18 = .ok (.getfield 97, 3) := by decide +kernel
theorem dX2_origin_21 : decode cX2_origin 21 = .ok (.getfield 87, 3) := by decide +kernel
theorem dX2_origin_24 : decode cX2_origin 24 = .ok (.iconst 1, 1) := by decide +kernel
theorem dX2_origin_25 : decode cX2_origin 25 = .ok (.iadd, 1) := by decide +kernel
theorem dX2_origin_26 : decode cX2_origin 26 = .ok (.istore_n 3, 1) := by decide +kernel
theorem dX2_origin_27 : decode cX2_origin 27 = .ok (.sipush 1000, 3) := by decide +kernel
theorem dX2_origin_30 : decode cX2_origin 30 = .ok (.aload_n 2, 1) := by decide +kernel
theorem dX2_origin_31 : decode cX2_origin 31 = .ok (.getfield 134, 3) := by decide +kernel
theorem dX2_origin_34 : decode cX2_origin 34 = .ok (.getfield 138, 3) := by decide +kernel
theorem dX2_origin_37 : decode cX2_origin 37 = .ok (.imul, 1) := by decide +kernel
theorem dX2_origin_38 : decode cX2_origin 38 = .ok (.iload_n 3, 1) := by decide +kernel
theorem dX2_origin_39 : decode cX2_origin 39 = .ok (.iadd, 1) := by decide +kernel
theorem dX2_origin_40 : decode cX2_origin 40 = .ok (.ireturn, 1) := by decide +kernel
theorem dX2_deadline_0 : decode cX2_deadline 0 = .ok (.aload_n 0, 1) := by decide +kernel
theorem dX2_deadline_1 : decode cX2_deadline 1 = .ok (.iload_n 1, 1) := by decide +kernel
theorem dX2_deadline_2 : decode cX2_deadline 2 = .ok (.invokevirtual 90, 3) := by decide +kernel
theorem dX2_deadline_5 : decode cX2_deadline 5 = .ok (.getfield 139, 3) := by decide +kernel
theorem dX2_deadline_8 : decode cX2_deadline 8 = .ok (.ireturn, 1) := by decide +kernel
theorem dX2_overAt_0 : decode cX2_overAt 0 = .ok (.aload_n 0, 1) := by decide +kernel
theorem dX2_overAt_1 : decode cX2_overAt 1 = .ok (.iload_n 1, 1) := by decide +kernel
theorem dX2_overAt_2 : decode cX2_overAt 2 = .ok (.invokevirtual 90, 3) := by decide +kernel
theorem dX2_overAt_5 : decode cX2_overAt 5 = .ok (.getfield 142, 3) := by decide +kernel
theorem dX2_overAt_8 : decode cX2_overAt 8 = .ok (.ireturn, 1) := by decide +kernel
theorem dX2_place_0 : decode cX2_place 0 = .ok (.aload_n 0, 1) := by decide +kernel
theorem dX2_place_1 : decode cX2_place 1 = .ok (.iload_n 1, 1) := by decide +kernel
theorem dX2_place_2 : decode cX2_place 2 = .ok (.invokevirtual 90, 3) := by decide +kernel
theorem dX2_place_5 : decode cX2_place 5 = .ok (.astore_n 2, 1) := by decide +kernel
theorem dX2_place_6 : decode cX2_place 6 = .ok (.aload_n 2, 1) := by decide +kernel
theorem dX2_place_7 : decode cX2_place 7 = .ok (.getfield 131, 3) := by decide +kernel
theorem dX2_place_10 : decode cX2_place 10 = .ok (.iconst 2, 1) := by decide +kernel
theorem dX2_place_11 : decode cX2_place 11 = .ok (.if_icmp .ne 10, 3) := by decide +kernel
theorem dX2_place_14 : decode cX2_place 14 = .ok (.aload_n 2, 1) := by decide +kernel
theorem dX2_place_15 : decode cX2_place 15 = .ok (.getfield 145, 3) := by decide +kernel
theorem dX2_place_18 : decode cX2_place 18 = .ok (.goto 4, 3) := by decide +kernel
theorem dX2_place_21 : decode cX2_place 21 = .ok (.iconst (-1), 1) := by decide +kernel
theorem dX2_place_22 : decode cX2_place 22 = .ok (.ireturn, 1) := by decide +kernel
theorem dX2_below_0 : decode cX2_below 0 = .ok (.aload_n 0, 1) := by decide +kernel
theorem dX2_below_1 : decode cX2_below 1 = .ok (.iload_n 1, 1) := by decide +kernel
theorem dX2_below_2 : decode cX2_below 2 = .ok (.invokevirtual 90, 3) := by decide +kernel
theorem dX2_below_5 : decode cX2_below 5 = .ok (.astore_n 2, 1) := by decide +kernel
theorem dX2_below_6 : decode cX2_below 6 = .ok (.iconst 0, 1) := by decide +kernel
theorem dX2_below_7 : decode cX2_below 7 = .ok (.istore_n 3, 1) := by decide +kernel
theorem dX2_below_8 : decode cX2_below 8 = .ok (.aload_n 2, 1) := by decide +kernel
theorem dX2_below_9 : decode cX2_below 9 = .ok (.getfield 148, 3) := by decide +kernel
theorem dX2_below_12 : decode cX2_below 12 = .ok (.astore 4, 2) := by decide +kernel
theorem dX2_below_14 : decode cX2_below 14 = .ok (.aload 4, 2) := by decide +kernel
theorem dX2_below_16 : decode cX2_below 16 = .ok (.ifnull 33, 3) := by decide +kernel
theorem dX2_below_19 : decode cX2_below 19 = .ok (.aload 4, 2) := by decide +kernel
theorem dX2_below_21 : decode cX2_below 21 = .ok (.invokevirtual 94, 3) := by decide +kernel
theorem dX2_below_24 : decode cX2_below 24 = .ok (.ifCond .ne 15, 3) := by decide +kernel
theorem dX2_below_27 : decode cX2_below 27 = .ok (.aload 4, 2) := by decide +kernel
theorem dX2_below_29 : decode cX2_below 29 = .ok (.aload_n 2, 1) := by decide +kernel
theorem dX2_below_30 : decode cX2_below 30 = .ok (.invokevirtual 151, 3) := by decide +kernel
theorem dX2_below_33 : decode cX2_below 33 = .ok (.ifCond .eq 6, 3) := by decide +kernel
theorem dX2_below_36 : decode cX2_below 36 = .ok (.iinc 3 1, 3) := by decide +kernel
theorem dX2_below_39 : decode cX2_below 39 = .ok (.aload 4, 2) := by decide +kernel
theorem dX2_below_41 : decode cX2_below 41 = .ok (.getfield 148, 3) := by decide +kernel
theorem dX2_below_44 : decode cX2_below 44 = .ok (.astore 4, 2) := by decide +kernel
theorem dX2_below_46 : decode cX2_below 46 = .ok (.goto (-32), 3) := by decide +kernel
theorem dX2_below_49 : decode cX2_below 49 = .ok (.iload_n 3, 1) := by decide +kernel
theorem dX2_below_50 : decode cX2_below 50 = .ok (.ireturn, 1) := by decide +kernel
theorem dX2_queuedAt_0 : decode cX2_queuedAt 0 = .ok (.aload_n 0, 1) := by decide +kernel
theorem dX2_queuedAt_1 : decode cX2_queuedAt 1 = .ok (.iload_n 1, 1) := by decide +kernel
theorem dX2_queuedAt_2 : decode cX2_queuedAt 2 = .ok (.invokevirtual 24, 3) := by decide +kernel
theorem dX2_queuedAt_5 : decode cX2_queuedAt 5 = .ok (.astore_n 3, 1) := by decide +kernel
theorem dX2_queuedAt_6 : decode cX2_queuedAt 6 = .ok (.iconst 0, 1) := by decide +kernel
theorem dX2_queuedAt_7 : decode cX2_queuedAt 7 = .ok (.istore 4, 2) := by decide +kernel
theorem dX2_queuedAt_9 : decode cX2_queuedAt 9 = .ok (.aload_n 0, 1) := by decide +kernel
theorem dX2_queuedAt_10 : decode cX2_queuedAt 10 = .ok (.getfield 155, 3) := by decide +kernel
theorem dX2_queuedAt_13 : decode cX2_queuedAt 13 = .ok (.astore 5, 2) := by decide +kernel
theorem dX2_queuedAt_15 : decode cX2_queuedAt 15 = .ok (.aload 5, 2) := by decide +kernel
theorem dX2_queuedAt_17 : decode cX2_queuedAt 17 = .ok (.ifnull 38, 3) := by decide +kernel
theorem dX2_queuedAt_20 : decode cX2_queuedAt 20 = .ok (.aload 5, 2) := by decide +kernel
theorem dX2_queuedAt_22 : decode cX2_queuedAt 22 = .ok (.aload_n 3, 1) := by decide +kernel
theorem dX2_queuedAt_23 : decode cX2_queuedAt 23 = .ok (.iconst 0, 1) := by decide +kernel
theorem dX2_queuedAt_24 : decode cX2_queuedAt 24 = .ok (.invokevirtual 158, 3) := by decide +kernel
theorem dX2_queuedAt_27 : decode cX2_queuedAt 27 = .ok (.ifCond .eq 18, 3) := by decide +kernel
theorem dX2_queuedAt_30 : decode cX2_queuedAt 30 = .ok (.iload 4, 2) := by decide +kernel
theorem dX2_queuedAt_32 : decode cX2_queuedAt 32 = .ok (.iload_n 2, 1) := by decide +kernel
theorem dX2_queuedAt_33 : decode cX2_queuedAt 33 = .ok (.if_icmp .ne 9, 3) := by decide +kernel
theorem dX2_queuedAt_36 : decode cX2_queuedAt 36 = .ok (.aload 5, 2) := by decide +kernel
theorem dX2_queuedAt_38 : decode cX2_queuedAt 38 = .ok (.getfield 87, 3) := by decide +kernel
theorem dX2_queuedAt_41 : decode cX2_queuedAt 41 = .ok (.ireturn, 1) := by decide +kernel
theorem dX2_queuedAt_42 : decode cX2_queuedAt 42 = .ok (.iinc 4 1, 3) := by decide +kernel
theorem dX2_queuedAt_45 : decode cX2_queuedAt 45 = .ok (.aload 5, 2) := by decide +kernel
theorem dX2_queuedAt_47 : decode cX2_queuedAt 47 = .ok (.getfield 148, 3) := by decide +kernel
theorem dX2_queuedAt_50 : decode cX2_queuedAt 50 = .ok (.astore 5, 2) := by decide +kernel
theorem dX2_queuedAt_52 : decode cX2_queuedAt 52 = .ok (.goto (-37), 3) := by decide +kernel
theorem dX2_queuedAt_55 : decode cX2_queuedAt 55 = .ok (.new 162, 3) := by decide +kernel
theorem dX2_queuedAt_58 : decode cX2_queuedAt 58 = .ok (.dup, 1) := by decide +kernel
theorem dX2_queuedAt_59 : decode cX2_queuedAt 59 = .ok (.ldc 164, 2) := by decide +kernel
theorem dX2_queuedAt_61 : decode cX2_queuedAt 61 = .ok (.invokespecial 166, 3) := by decide +kernel
theorem dX2_queuedAt_64 : decode cX2_queuedAt 64 = .ok (.athrow, 1) := by decide +kernel
theorem dX2_count_0 : decode cX2_count 0 = .ok (.aload_n 0, 1) := by decide +kernel
theorem dX2_count_1 : decode cX2_count 1 = .ok (.iload_n 1, 1) := by decide +kernel
theorem dX2_count_2 : decode cX2_count 2 = .ok (.invokevirtual 24, 3) := by decide +kernel
theorem dX2_count_5 : decode cX2_count 5 = .ok (.astore_n 3, 1) := by decide +kernel
theorem dX2_count_6 : decode cX2_count 6 = .ok (.iload_n 2, 1) := by decide +kernel
theorem dX2_count_7 : decode cX2_count 7 = .ok (.iconst 0, 1) := by decide +kernel
theorem dX2_count_8 : decode cX2_count 8 = .ok (.bipush 7, 2) := by decide +kernel
theorem dX2_count_10 : decode cX2_count 10 = .ok (.invokestatic 28, 3) := by decide +kernel
theorem dX2_count_13 : decode cX2_count 13 = .ok (.aload_n 3, 1) := by decide +kernel
theorem dX2_count_14 : decode cX2_count 14 = .ok (.iload_n 2, 1) := by decide +kernel
theorem dX2_count_15 : decode cX2_count 15 = .ok (.invokevirtual 167, 3) := by decide +kernel
theorem dX2_count_18 : decode cX2_count 18 = .ok (.ireturn, 1) := by decide +kernel
theorem dX2_tokens_0 : decode cX2_tokens 0 = .ok (.aload_n 0, 1) := by decide +kernel
theorem dX2_tokens_1 : decode cX2_tokens 1 = .ok (.iload_n 1, 1) := by decide +kernel
theorem dX2_tokens_2 : decode cX2_tokens 2 = .ok (.invokevirtual 24, 3) := by decide +kernel
theorem dX2_tokens_5 : decode cX2_tokens 5 = .ok (.getfield 171, 3) := by decide +kernel
theorem dX2_tokens_8 : decode cX2_tokens 8 = .ok (.ireturn, 1) := by decide +kernel
theorem dX2_isOpen_0 : decode cX2_isOpen 0 = .ok (.aload_n 0, 1) := by decide +kernel
theorem dX2_isOpen_1 : decode cX2_isOpen 1 = .ok (.iload_n 1, 1) := by decide +kernel
theorem dX2_isOpen_2 : decode cX2_isOpen 2 = .ok (.invokevirtual 24, 3) := by decide +kernel
theorem dX2_isOpen_5 : decode cX2_isOpen 5 = .ok (.aload_n 0, 1) := by decide +kernel
theorem dX2_isOpen_6 : decode cX2_isOpen 6 = .ok (.getfield 76, 3) := by decide +kernel
theorem dX2_isOpen_9 : decode cX2_isOpen 9 = .ok (.invokevirtual 174, 3) := by decide +kernel
theorem dX2_isOpen_12 : decode cX2_isOpen 12 = .ok (.ireturn, 1) := by decide +kernel
theorem dX2_serviceAt_0 : decode cX2_serviceAt 0 = .ok (.iload_n 1, 1) := by decide +kernel
theorem dX2_serviceAt_1 : decode cX2_serviceAt 1 = .ok (.ifCond .lt 21, 3) := by decide +kernel
theorem dX2_serviceAt_4 : decode cX2_serviceAt 4 = .ok (.iload_n 1, 1) := by decide +kernel
theorem dX2_serviceAt_5 : decode cX2_serviceAt 5 = .ok (.aload_n 0, 1) := by decide +kernel
theorem dX2_serviceAt_6 : decode cX2_serviceAt 6 = .ok (.getfield 11, 3) := by decide +kernel
theorem dX2_serviceAt_9 : decode cX2_serviceAt 9 = .ok (.arraylength, 1) := by decide +kernel
theorem dX2_serviceAt_10 : decode cX2_serviceAt 10 = .ok (.if_icmp .ge 12, 3) := by decide +kernel
theorem dX2_serviceAt_13 : decode cX2_serviceAt 13 = .ok (.aload_n 0, 1) := by decide +kernel
theorem dX2_serviceAt_14 : decode cX2_serviceAt 14 = .ok (.getfield 11, 3) := by decide +kernel
theorem dX2_serviceAt_17 : decode cX2_serviceAt 17 = .ok (.iload_n 1, 1) := by decide +kernel
theorem dX2_serviceAt_18 : decode cX2_serviceAt 18 = .ok (.aaload, 1) := by decide +kernel
theorem dX2_serviceAt_19 : decode cX2_serviceAt 19 = .ok (.goto 4, 3) := by decide +kernel
theorem dX2_serviceAt_22 : decode cX2_serviceAt 22 = .ok (.aconst_null, 1) := by decide +kernel
theorem dX2_serviceAt_23 : decode cX2_serviceAt 23 = .ok (.astore_n 2, 1) := by decide +kernel
theorem dX2_serviceAt_24 : decode cX2_serviceAt 24 = .ok (.aload_n 2, 1) := by decide +kernel
theorem dX2_serviceAt_25 : decode cX2_serviceAt 25 = .ok (.ifnonnull 13, 3) := by decide +kernel
theorem dX2_serviceAt_28 : decode cX2_serviceAt 28 = .ok (.new 162, 3) := by decide +kernel
theorem dX2_serviceAt_31 : decode cX2_serviceAt 31 = .ok (.dup, 1) := by decide +kernel
theorem dX2_serviceAt_32 : decode cX2_serviceAt 32 = .ok (.ldc 178, 2) := by decide +kernel
theorem dX2_serviceAt_34 : decode cX2_serviceAt 34 = .ok (.invokespecial 166, 3) := by decide +kernel
theorem dX2_serviceAt_37 : decode cX2_serviceAt 37 = .ok (.athrow, 1) := by decide +kernel
theorem dX2_serviceAt_38 : decode cX2_serviceAt 38 = .ok (.aload_n 2, 1) := by decide +kernel
theorem dX2_serviceAt_39 : decode cX2_serviceAt 39 = .ok (.areturn, 1) := by decide +kernel
theorem dX2_callAt_0 : decode cX2_callAt 0 = .ok (.iload_n 1, 1) := by decide +kernel
theorem dX2_callAt_1 : decode cX2_callAt 1 = .ok (.ifCond .lt 21, 3) := by decide +kernel
theorem dX2_callAt_4 : decode cX2_callAt 4 = .ok (.iload_n 1, 1) := by decide +kernel
theorem dX2_callAt_5 : decode cX2_callAt 5 = .ok (.aload_n 0, 1) := by decide +kernel
theorem dX2_callAt_6 : decode cX2_callAt 6 = .ok (.getfield 17, 3) := by decide +kernel
theorem dX2_callAt_9 : decode cX2_callAt 9 = .ok (.arraylength, 1) := by decide +kernel
theorem dX2_callAt_10 : decode cX2_callAt 10 = .ok (.if_icmp .ge 12, 3) := by decide +kernel
theorem dX2_callAt_13 : decode cX2_callAt 13 = .ok (.aload_n 0, 1) := by decide +kernel
theorem dX2_callAt_14 : decode cX2_callAt 14 = .ok (.getfield 17, 3) := by decide +kernel
theorem dX2_callAt_17 : decode cX2_callAt 17 = .ok (.iload_n 1, 1) := by decide +kernel
theorem dX2_callAt_18 : decode cX2_callAt 18 = .ok (.aaload, 1) := by decide +kernel
theorem dX2_callAt_19 : decode cX2_callAt 19 = .ok (.goto 4, 3) := by decide +kernel
theorem dX2_callAt_22 : decode cX2_callAt 22 = .ok (.aconst_null, 1) := by decide +kernel
theorem dX2_callAt_23 : decode cX2_callAt 23 = .ok (.astore_n 2, 1) := by decide +kernel
theorem dX2_callAt_24 : decode cX2_callAt 24 = .ok (.aload_n 2, 1) := by decide +kernel
theorem dX2_callAt_25 : decode cX2_callAt 25 = .ok (.ifnonnull 13, 3) := by decide +kernel
theorem dX2_callAt_28 : decode cX2_callAt 28 = .ok (.new 162, 3) := by decide +kernel
theorem dX2_callAt_31 : decode cX2_callAt 31 = .ok (.dup, 1) := by decide +kernel
theorem dX2_callAt_32 : decode cX2_callAt 32 = .ok (.ldc 180, 2) := by decide +kernel
theorem dX2_callAt_34 : decode cX2_callAt 34 = .ok (.invokespecial 166, 3) := by decide +kernel
theorem dX2_callAt_37 : decode cX2_callAt 37 = .ok (.athrow, 1) := by decide +kernel
theorem dX2_callAt_38 : decode cX2_callAt 38 = .ok (.aload_n 2, 1) := by decide +kernel
theorem dX2_callAt_39 : decode cX2_callAt 39 = .ok (.areturn, 1) := by decide +kernel
theorem dX2_checkRange_0 : decode cX2_checkRange 0 = .ok (.iload_n 0, 1) := by decide +kernel
theorem dX2_checkRange_1 : decode cX2_checkRange 1 = .ok (.iload_n 1, 1) := by decide +kernel
theorem dX2_checkRange_2 : decode cX2_checkRange 2 = .ok (.if_icmp .lt 8, 3) := by decide +kernel
theorem dX2_checkRange_5 : decode cX2_checkRange 5 = .ok (.iload_n 0, 1) := by decide +kernel
theorem dX2_checkRange_6 : decode cX2_checkRange 6 = .ok (.iload_n 2, 1) := by decide +kernel
theorem dX2_checkRange_7 : decode cX2_checkRange 7 = .ok (.if_icmp .le 13, 3) := by decide +kernel
theorem dX2_checkRange_10 : decode cX2_checkRange 10 = .ok (.new 42, 3) := by decide +kernel
theorem dX2_checkRange_13 : decode cX2_checkRange 13 = .ok (.dup, 1) := by decide +kernel
theorem dX2_checkRange_14 : decode cX2_checkRange 14 = .ok (.ldc 182, 2) := by decide +kernel
theorem dX2_checkRange_16 : decode cX2_checkRange 16 = .ok (.invokespecial 46, 3) := by decide +kernel
theorem dX2_checkRange_19 : decode cX2_checkRange 19 = .ok (.athrow, 1) := by decide +kernel
theorem dX2_checkRange_20 : decode cX2_checkRange 20 = .ok (.return_, 1) := by decide +kernel
theorem dX2_isFull_0 : decode cX2_isFull 0 = .ok (.aload_n 0, 1) := by decide +kernel
theorem dX2_isFull_1 : decode cX2_isFull 1 = .ok (.getfield 128, 3) := by decide +kernel
theorem dX2_isFull_4 : decode cX2_isFull 4 = .ok (.aload_n 0, 1) := by decide +kernel
theorem dX2_isFull_5 : decode cX2_isFull 5 = .ok (.getfield 17, 3) := by decide +kernel
theorem dX2_isFull_8 : decode cX2_isFull 8 = .ok (.arraylength, 1) := by decide +kernel
theorem dX2_isFull_9 : decode cX2_isFull 9 = .ok (.if_icmp .lt 7, 3) := by decide +kernel
theorem dX2_isFull_12 : decode cX2_isFull 12 = .ok (.iconst 1, 1) := by decide +kernel
theorem dX2_isFull_13 : decode cX2_isFull 13 = .ok (.goto 4, 3) := by decide +kernel
theorem dX2_isFull_16 : decode cX2_isFull 16 = .ok (.iconst 0, 1) := by decide +kernel
theorem dX2_isFull_17 : decode cX2_isFull 17 = .ok (.ireturn, 1) := by decide +kernel
theorem dX2_makeCall_0 : decode cX2_makeCall 0 = .ok (.new 15, 3) := by decide +kernel
theorem dX2_makeCall_3 : decode cX2_makeCall 3 = .ok (.dup, 1) := by decide +kernel
theorem dX2_makeCall_4 : decode cX2_makeCall 4 = .ok (.aload_n 0, 1) := by decide +kernel
theorem dX2_makeCall_5 : decode cX2_makeCall 5 = .ok (.getfield 128, 3) := by decide +kernel
theorem dX2_makeCall_8 : decode cX2_makeCall 8 = .ok (.aload_n 1, 1) := by decide +kernel
theorem dX2_makeCall_9 : decode cX2_makeCall 9 = .ok (.aload_n 2, 1) := by decide +kernel
theorem dX2_makeCall_10 : decode cX2_makeCall 10 = .ok (.iload_n 3, 1) := by decide +kernel
theorem dX2_makeCall_11 : decode cX2_makeCall 11 = .ok (.invokespecial 184, 3) := by decide +kernel
theorem dX2_makeCall_14 : decode cX2_makeCall 14 = .ok (.astore 4, 2) := by decide +kernel
theorem dX2_makeCall_16 : decode cX2_makeCall 16 = .ok (.aload_n 0, 1) := by decide +kernel
theorem dX2_makeCall_17 : decode cX2_makeCall 17 = .ok (.getfield 128, 3) := by decide +kernel
theorem dX2_makeCall_20 : decode cX2_makeCall 20 = .ok (.aload_n 0, 1) := by decide +kernel
theorem dX2_makeCall_21 : decode cX2_makeCall 21 = .ok (.getfield 17, 3) := by decide +kernel
theorem dX2_makeCall_24 : decode cX2_makeCall 24 = .ok (.arraylength, 1) := by decide +kernel
theorem dX2_makeCall_25 : decode cX2_makeCall 25 = .ok (.if_icmp .ge 24, 3) := by decide +kernel
theorem dX2_makeCall_28 : decode cX2_makeCall 28 = .ok (.aload_n 0, 1) := by decide +kernel
theorem dX2_makeCall_29 : decode cX2_makeCall 29 = .ok (.getfield 17, 3) := by decide +kernel
theorem dX2_makeCall_32 : decode cX2_makeCall 32 = .ok (.aload_n 0, 1) := by decide +kernel
theorem dX2_makeCall_33 : decode cX2_makeCall 33 = .ok (.getfield 128, 3) := by decide +kernel
theorem dX2_makeCall_36 : decode cX2_makeCall 36 = .ok (.aload 4, 2) := by decide +kernel
theorem dX2_makeCall_38 : decode cX2_makeCall 38 = .ok (.aastore, 1) := by decide +kernel
theorem dX2_makeCall_39 : decode cX2_makeCall 39 = .ok (.aload_n 0, 1) := by decide +kernel
theorem dX2_makeCall_40 : decode cX2_makeCall 40 = .ok (.dup, 1) := by decide +kernel
theorem dX2_makeCall_41 : decode cX2_makeCall 41 = .ok (.getfield 128, 3) := by decide +kernel
theorem dX2_makeCall_44 : decode cX2_makeCall 44 = .ok (.iconst 1, 1) := by decide +kernel
theorem dX2_makeCall_45 : decode cX2_makeCall 45 = .ok (.iadd, 1) := by decide +kernel
theorem dX2_makeCall_46 : decode cX2_makeCall 46 = .ok (.putfield 128, 3) := by decide +kernel
theorem dX2_makeCall_49 : decode cX2_makeCall 49 = .ok (.aload 4, 2) := by decide +kernel
theorem dX2_makeCall_51 : decode cX2_makeCall 51 = .ok (.aload_n 0, 1) := by decide +kernel
theorem dX2_makeCall_52 : decode cX2_makeCall 52 = .ok (.getfield 187, 3) := by decide +kernel
theorem dX2_makeCall_55 : decode cX2_makeCall 55 = .ok (.putfield 190, 3) := by decide +kernel
theorem dX2_makeCall_58 : decode cX2_makeCall 58 = .ok (.aload_n 0, 1) := by decide +kernel
theorem dX2_makeCall_59 : decode cX2_makeCall 59 = .ok (.getfield 187, 3) := by decide +kernel
theorem dX2_makeCall_62 : decode cX2_makeCall 62 = .ok (.ifnonnull 12, 3) := by decide +kernel
theorem dX2_makeCall_65 : decode cX2_makeCall 65 = .ok (.aload_n 0, 1) := by decide +kernel
theorem dX2_makeCall_66 : decode cX2_makeCall 66 = .ok (.aload 4, 2) := by decide +kernel
theorem dX2_makeCall_68 : decode cX2_makeCall 68 = .ok (.putfield 155, 3) := by decide +kernel
theorem dX2_makeCall_71 : decode cX2_makeCall 71 = .ok (.goto 12, 3) := by decide +kernel
theorem dX2_makeCall_74 : decode cX2_makeCall 74 = .ok (.aload_n 0, 1) := by decide +kernel
theorem dX2_makeCall_75 : decode cX2_makeCall 75 = .ok (.getfield 187, 3) := by decide +kernel
theorem dX2_makeCall_78 : decode cX2_makeCall 78 = .ok (.aload 4, 2) := by decide +kernel
theorem dX2_makeCall_80 : decode cX2_makeCall 80 = .ok (.putfield 148, 3) := by decide +kernel
theorem dX2_makeCall_83 : decode cX2_makeCall 83 = .ok (.aload_n 0, 1) := by decide +kernel
theorem dX2_makeCall_84 : decode cX2_makeCall 84 = .ok (.aload 4, 2) := by decide +kernel
theorem dX2_makeCall_86 : decode cX2_makeCall 86 = .ok (.putfield 187, 3) := by decide +kernel
theorem dX2_makeCall_89 : decode cX2_makeCall 89 = .ok (.aload 4, 2) := by decide +kernel
theorem dX2_makeCall_91 : decode cX2_makeCall 91 = .ok (.areturn, 1) := by decide +kernel
theorem dX2_begin_0 : decode cX2_begin 0 = .ok (.aload_n 1, 1) := by decide +kernel
theorem dX2_begin_1 : decode cX2_begin 1 = .ok (.getfield 134, 3) := by decide +kernel
theorem dX2_begin_4 : decode cX2_begin 4 = .ok (.astore_n 2, 1) := by decide +kernel
theorem dX2_begin_5 : decode cX2_begin 5 = .ok (.aload_n 2, 1) := by decide +kernel
theorem dX2_begin_6 : decode cX2_begin 6 = .ok (.aload_n 0, 1) := by decide +kernel
theorem dX2_begin_7 : decode cX2_begin 7 = .ok (.getfield 76, 3) := by decide +kernel
theorem dX2_begin_10 : decode cX2_begin 10 = .ok (.invokevirtual 174, 3) := by decide +kernel
theorem dX2_begin_13 : decode cX2_begin 13 = .ok (.ifCond .eq 13, 3) := by decide +kernel
theorem dX2_begin_16 : decode cX2_begin 16 = .ok (.aload_n 0, 1) := by decide +kernel
theorem dX2_begin_17 : decode cX2_begin 17 = .ok (.aload_n 1, 1) := by decide +kernel
theorem dX2_begin_18 : decode cX2_begin 18 = .ok (.iconst 4, 1) := by decide +kernel
theorem dX2_begin_19 : decode cX2_begin 19 = .ok (.invokevirtual 103, 3) := by decide +kernel
theorem dX2_begin_22 : decode cX2_begin 22 = .ok (.pop, 1) := by decide +kernel
theorem dX2_begin_23 : decode cX2_begin 23 = .ok (.goto 63, 3) := by decide +kernel
theorem dX2_begin_26 : decode cX2_begin 26 = .ok (.aload_n 1, 1) := by decide +kernel
theorem dX2_begin_27 : decode cX2_begin 27 = .ok (.aload_n 0, 1) := by decide +kernel
theorem dX2_begin_28 : decode cX2_begin 28 = .ok (.getfield 76, 3) := by decide +kernel
theorem dX2_begin_31 : decode cX2_begin 31 = .ok (.invokevirtual 193, 3) := by decide +kernel
theorem dX2_begin_34 : decode cX2_begin 34 = .ok (.ifCond .ne 14, 3) := by decide +kernel
theorem dX2_begin_37 : decode cX2_begin 37 = .ok (.aload_n 0, 1) := by decide +kernel
theorem dX2_begin_38 : decode cX2_begin 38 = .ok (.aload_n 1, 1) := by decide +kernel
theorem dX2_begin_39 : decode cX2_begin 39 = .ok (.bipush 6, 2) := by decide +kernel
theorem dX2_begin_41 : decode cX2_begin 41 = .ok (.invokevirtual 103, 3) := by decide +kernel
theorem dX2_begin_44 : decode cX2_begin 44 = .ok (.pop, 1) := by decide +kernel
theorem dX2_begin_45 : decode cX2_begin 45 = .ok (.goto 41, 3) := by decide +kernel
theorem dX2_begin_48 : decode cX2_begin 48 = .ok (.aload_n 2, 1) := by decide +kernel
theorem dX2_begin_49 : decode cX2_begin 49 = .ok (.invokevirtual 196, 3) := by decide +kernel
theorem dX2_begin_52 : decode cX2_begin 52 = .ok (.ifCond .eq 11, 3) := by decide +kernel
theorem dX2_begin_55 : decode cX2_begin 55 = .ok (.aload_n 0, 1) := by decide +kernel
theorem dX2_begin_56 : decode cX2_begin 56 = .ok (.aload_n 1, 1) := by decide +kernel
theorem dX2_begin_57 : decode cX2_begin 57 = .ok (.invokevirtual 199, 3) := by decide +kernel
theorem dX2_begin_60 : decode cX2_begin 60 = .ok (.goto 26, 3) := by decide +kernel
theorem dX2_begin_63 : decode cX2_begin 63 = .ok (.aload_n 2, 1) := by decide +kernel
theorem dX2_begin_64 : decode cX2_begin 64 = .ok (.invokevirtual 202, 3) := by decide +kernel
theorem dX2_begin_67 : decode cX2_begin 67 = .ok (.ifCond .eq 11, 3) := by decide +kernel
theorem dX2_begin_70 : decode cX2_begin 70 = .ok (.aload_n 1, 1) := by decide +kernel
theorem dX2_begin_71 : decode cX2_begin 71 = .ok (.iconst 0, 1) := by decide +kernel
theorem dX2_begin_72 : decode cX2_begin 72 = .ok (.invokevirtual 205, 3) := by decide +kernel
theorem dX2_begin_75 : decode cX2_begin 75 = .ok (.goto 11, 3) := by decide +kernel
theorem dX2_begin_78 : decode cX2_begin 78 = .ok (.aload_n 0, 1) := by decide +kernel
theorem dX2_begin_79 : decode cX2_begin 79 = .ok (.aload_n 1, 1) := by decide +kernel
theorem dX2_begin_80 : decode cX2_begin 80 = .ok (.bipush 6, 2) := by decide +kernel
theorem dX2_begin_82 : decode cX2_begin 82 = .ok (.invokevirtual 103, 3) := by decide +kernel
theorem dX2_begin_85 : decode cX2_begin 85 = .ok (.pop, 1) := by decide +kernel
theorem dX2_begin_86 : decode cX2_begin 86 = .ok (.return_, 1) := by decide +kernel
theorem dX2_startWork_0 : decode cX2_startWork 0 = .ok (.aload_n 1, 1) := by decide +kernel
theorem dX2_startWork_1 : decode cX2_startWork 1 = .ok (.iconst 1, 1) := by decide +kernel
theorem dX2_startWork_2 : decode cX2_startWork 2 = .ok (.invokevirtual 205, 3) := by decide +kernel
theorem dX2_startWork_5 : decode cX2_startWork 5 = .ok (.aload_n 1, 1) := by decide +kernel
theorem dX2_startWork_6 : decode cX2_startWork 6 = .ok (.aload_n 0, 1) := by decide +kernel
theorem dX2_startWork_7 : decode cX2_startWork 7 = .ok (.getfield 76, 3) := by decide +kernel
theorem dX2_startWork_10 : decode cX2_startWork 10 = .ok (.aload_n 1, 1) := by decide +kernel
theorem dX2_startWork_11 : decode cX2_startWork 11 = .ok (.getfield 134, 3) := by decide +kernel
theorem dX2_startWork_14 : decode cX2_startWork 14 = .ok (.getfield 32, 3) := by decide +kernel
theorem dX2_startWork_17 : decode cX2_startWork 17 = .ok (.iadd, 1) := by decide +kernel
theorem dX2_startWork_18 : decode cX2_startWork 18 = .ok (.putfield 208, 3) := by decide +kernel
theorem dX2_startWork_21 : decode cX2_startWork 21 = .ok (.return_, 1) := by decide +kernel
theorem dX2_finish_0 : decode cX2_finish 0 = .ok (.aload_n 0, 1) := by decide +kernel
theorem dX2_finish_1 : decode cX2_finish 1 = .ok (.aload_n 1, 1) := by decide +kernel
theorem dX2_finish_2 : decode cX2_finish 2 = .ok (.iload_n 2, 1) := by decide +kernel
theorem dX2_finish_3 : decode cX2_finish 3 = .ok (.invokevirtual 211, 3) := by decide +kernel
theorem dX2_finish_6 : decode cX2_finish 6 = .ok (.iconst 0, 1) := by decide +kernel
theorem dX2_finish_7 : decode cX2_finish 7 = .ok (.istore_n 3, 1) := by decide +kernel
theorem dX2_finish_8 : decode cX2_finish 8 = .ok (.aload_n 1, 1) := by decide +kernel
theorem dX2_finish_9 : decode cX2_finish 9 = .ok (.getfield 148, 3) := by decide +kernel
theorem dX2_finish_12 : decode cX2_finish 12 = .ok (.astore 4, 2) := by decide +kernel
theorem dX2_finish_14 : decode cX2_finish 14 = .ok (.aload 4, 2) := by decide +kernel
theorem dX2_finish_16 : decode cX2_finish 16 = .ok (.ifnull 51, 3) := by decide +kernel
theorem dX2_finish_19 : decode cX2_finish 19 = .ok (.aload 4, 2) := by decide +kernel
theorem dX2_finish_21 : decode cX2_finish 21 = .ok (.invokevirtual 94, 3) := by decide +kernel
theorem dX2_finish_24 : decode cX2_finish 24 = .ok (.ifCond .ne 33, 3) := by decide +kernel
theorem dX2_finish_27 : decode cX2_finish 27 = .ok (.aload 4, 2) := by decide +kernel
theorem dX2_finish_29 : decode cX2_finish 29 = .ok (.getfield 97, 3) := by decide +kernel
theorem dX2_finish_32 : decode cX2_finish 32 = .ok (.ifnull 25, 3) := by decide +kernel
theorem dX2_finish_35 : decode cX2_finish 35 = .ok (.aload 4, 2) := by decide +kernel
theorem dX2_finish_37 : decode cX2_finish 37 = .ok (.getfield 97, 3) := by decide +kernel
theorem dX2_finish_40 : decode cX2_finish 40 = .ok (.invokevirtual 94, 3) := by decide +kernel
theorem dX2_finish_43 : decode cX2_finish 43 = .ok (.ifCond .eq 14, 3) := by decide +kernel
theorem dX2_finish_46 : decode cX2_finish 46 = .ok (.aload_n 0, 1) := by decide +kernel
theorem dX2_finish_47 : decode cX2_finish 47 = .ok (.aload 4, 2) := by decide +kernel
theorem dX2_finish_49 : decode cX2_finish 49 = .ok (.bipush 7, 2) := by decide +kernel
theorem dX2_finish_51 : decode cX2_finish 51 = .ok (.invokevirtual 211, 3) := by decide +kernel
theorem dX2_finish_54 : decode cX2_finish 54 = .ok (.iinc 3 1, 3) := by decide +kernel
theorem dX2_finish_57 : decode cX2_finish 57 = .ok (.aload 4, 2) := by decide +kernel
theorem dX2_finish_59 : decode cX2_finish 59 = .ok (.getfield 148, 3) := by decide +kernel
theorem dX2_finish_62 : decode cX2_finish 62 = .ok (.astore 4, 2) := by decide +kernel
theorem dX2_finish_64 : decode cX2_finish 64 = .ok (.goto (-50), 3) := by decide +kernel
theorem dX2_finish_67 : decode cX2_finish 67 = .ok (.iload_n 3, 1) := by decide +kernel
theorem dX2_finish_68 : decode cX2_finish 68 = .ok (.ireturn, 1) := by decide +kernel
theorem dX2_close_0 : decode cX2_close 0 = .ok (.aload_n 1, 1) := by decide +kernel
theorem dX2_close_1 : decode cX2_close 1 = .ok (.iload_n 2, 1) := by decide +kernel
theorem dX2_close_2 : decode cX2_close 2 = .ok (.invokevirtual 205, 3) := by decide +kernel
theorem dX2_close_5 : decode cX2_close 5 = .ok (.aload_n 1, 1) := by decide +kernel
theorem dX2_close_6 : decode cX2_close 6 = .ok (.aload_n 0, 1) := by decide +kernel
theorem dX2_close_7 : decode cX2_close 7 = .ok (.getfield 76, 3) := by decide +kernel
theorem dX2_close_10 : decode cX2_close 10 = .ok (.putfield 142, 3) := by decide +kernel
theorem dX2_close_13 : decode cX2_close 13 = .ok (.iload_n 2, 1) := by decide +kernel
theorem dX2_close_14 : decode cX2_close 14 = .ok (.iconst 3, 1) := by decide +kernel
theorem dX2_close_15 : decode cX2_close 15 = .ok (.if_icmp .ne 10, 3) := by decide +kernel
theorem dX2_close_18 : decode cX2_close 18 = .ok (.aload_n 1, 1) := by decide +kernel
theorem dX2_close_19 : decode cX2_close 19 = .ok (.getfield 134, 3) := by decide +kernel
theorem dX2_close_22 : decode cX2_close 22 = .ok (.invokevirtual 215, 3) := by decide +kernel
theorem dX2_close_25 : decode cX2_close 25 = .ok (.aload_n 1, 1) := by decide +kernel
theorem dX2_close_26 : decode cX2_close 26 = .ok (.getfield 97, 3) := by decide +kernel
theorem dX2_close_29 : decode cX2_close 29 = .ok (.ifnonnull 16, 3) := by decide +kernel
theorem dX2_close_32 : decode cX2_close 32 = .ok (.aload_n 0, 1) := by decide +kernel
theorem dX2_close_33 : decode cX2_close 33 = .ok (.dup, 1) := by decide +kernel
theorem dX2_close_34 : decode cX2_close 34 = .ok (.getfield 107, 3) := by decide +kernel
theorem dX2_close_37 : decode cX2_close 37 = .ok (.iconst 1, 1) := by decide +kernel
theorem dX2_close_38 : decode cX2_close 38 = .ok (.iadd, 1) := by decide +kernel
theorem dX2_close_39 : decode cX2_close 39 = .ok (.putfield 107, 3) := by decide +kernel
theorem dX2_close_42 : decode cX2_close 42 = .ok (.goto 11, 3) := by decide +kernel
theorem dX2_close_45 : decode cX2_close 45 = .ok (.aload_n 1, 1) := by decide +kernel
theorem dX2_close_46 : decode cX2_close 46 = .ok (.getfield 97, 3) := by decide +kernel
theorem dX2_close_49 : decode cX2_close 49 = .ok (.iload_n 2, 1) := by decide +kernel
theorem dX2_close_50 : decode cX2_close 50 = .ok (.invokevirtual 218, 3) := by decide +kernel
theorem dX2_close_53 : decode cX2_close 53 = .ok (.return_, 1) := by decide +kernel
theorem dX2_cutOffHead_0 : decode cX2_cutOffHead 0 = .ok (.aload_n 0, 1) := by decide +kernel
theorem dX2_cutOffHead_1 : decode cX2_cutOffHead 1 = .ok (.getfield 155, 3) := by decide +kernel
theorem dX2_cutOffHead_4 : decode cX2_cutOffHead 4 = .ok (.astore_n 1, 1) := by decide +kernel
theorem dX2_cutOffHead_5 : decode cX2_cutOffHead 5 = .ok (.aload_n 1, 1) := by decide +kernel
theorem dX2_cutOffHead_6 : decode cX2_cutOffHead 6 = .ok (.ifnull 18, 3) := by decide +kernel
theorem dX2_cutOffHead_9 : decode cX2_cutOffHead 9 = .ok (.aload_n 1, 1) := by decide +kernel
theorem dX2_cutOffHead_10 : decode cX2_cutOffHead 10 = .ok (.invokevirtual 94, 3) := by decide +kernel
theorem dX2_cutOffHead_13 : decode cX2_cutOffHead 13 = .ok (.ifCond .eq 11, 3) := by decide +kernel
theorem dX2_cutOffHead_16 : decode cX2_cutOffHead 16 = .ok (.aload_n 1, 1) := by decide +kernel
theorem dX2_cutOffHead_17 : decode cX2_cutOffHead 17 = .ok (.getfield 148, 3) := by decide +kernel
theorem dX2_cutOffHead_20 : decode cX2_cutOffHead 20 = .ok (.astore_n 1, 1) := by decide +kernel
theorem dX2_cutOffHead_21 : decode cX2_cutOffHead 21 = .ok (.goto (-16), 3) := by decide +kernel
theorem dX2_cutOffHead_24 : decode cX2_cutOffHead 24 = .ok (.aload_n 0, 1) := by decide +kernel
theorem dX2_cutOffHead_25 : decode cX2_cutOffHead 25 = .ok (.aload_n 1, 1) := by decide +kernel
theorem dX2_cutOffHead_26 : decode cX2_cutOffHead 26 = .ok (.putfield 155, 3) := by decide +kernel
theorem dX2_cutOffHead_29 : decode cX2_cutOffHead 29 = .ok (.aload_n 1, 1) := by decide +kernel
theorem dX2_cutOffHead_30 : decode cX2_cutOffHead 30 = .ok (.ifnonnull 11, 3) := by decide +kernel
theorem dX2_cutOffHead_33 : decode cX2_cutOffHead 33 = .ok (.aload_n 0, 1) := by decide +kernel
theorem dX2_cutOffHead_34 : decode cX2_cutOffHead 34 = .ok (.aconst_null, 1) := by decide +kernel
theorem dX2_cutOffHead_35 : decode cX2_cutOffHead 35 = .ok (.putfield 187, 3) := by decide +kernel
theorem dX2_cutOffHead_38 : decode cX2_cutOffHead 38 = .ok (.goto 8, 3) := by decide +kernel
theorem dX2_cutOffHead_41 : decode cX2_cutOffHead 41 = .ok (.aload_n 1, 1) := by decide +kernel
theorem dX2_cutOffHead_42 : decode cX2_cutOffHead 42 = .ok (.aconst_null, 1) := by decide +kernel
theorem dX2_cutOffHead_43 : decode cX2_cutOffHead 43 = .ok (.putfield 190, 3) := by decide +kernel
theorem dX2_cutOffHead_46 : decode cX2_cutOffHead 46 = .ok (.return_, 1) := by decide +kernel
theorem dX2_endLate_0 : decode cX2_endLate 0 = .ok (.aload_n 0, 1) := by decide +kernel
theorem dX2_endLate_1 : decode cX2_endLate 1 = .ok (.getfield 155, 3) := by decide +kernel
theorem dX2_endLate_4 : decode cX2_endLate 4 = .ok (.astore_n 1, 1) := by decide +kernel
theorem dX2_endLate_5 : decode cX2_endLate 5 = .ok (.aload_n 1, 1) := by decide +kernel
theorem dX2_endLate_6 : decode cX2_endLate 6 = .ok (.ifnull 47, 3) := by decide +kernel
theorem dX2_endLate_9 : decode cX2_endLate 9 = .ok (.aload_n 1, 1) := by decide +kernel
theorem dX2_endLate_10 : decode cX2_endLate 10 = .ok (.invokevirtual 94, 3) := by decide +kernel
theorem dX2_endLate_13 : decode cX2_endLate 13 = .ok (.ifCond .ne 32, 3) := by decide +kernel
theorem dX2_endLate_16 : decode cX2_endLate 16 = .ok (.aload_n 1, 1) := by decide +kernel
theorem dX2_endLate_17 : decode cX2_endLate 17 = .ok (.getfield 139, 3) := by decide +kernel
theorem dX2_endLate_20 : decode cX2_endLate 20 = .ok (.aload_n 0, 1) := by decide +kernel
theorem dX2_endLate_21 : decode cX2_endLate 21 = .ok (.getfield 76, 3) := by decide +kernel
theorem dX2_endLate_24 : decode cX2_endLate 24 = .ok (.if_icmp .gt 21, 3) := by decide +kernel
theorem dX2_endLate_27 : decode cX2_endLate 27 = .ok (.aload_n 0, 1) := by decide +kernel
theorem dX2_endLate_28 : decode cX2_endLate 28 = .ok (.aload_n 1, 1) := by decide +kernel
theorem dX2_endLate_29 : decode cX2_endLate 29 = .ok (.iconst 5, 1) := by decide +kernel
theorem dX2_endLate_30 : decode cX2_endLate 30 = .ok (.invokevirtual 103, 3) := by decide +kernel
theorem dX2_endLate_33 : decode cX2_endLate 33 = .ok (.pop, 1) := by decide +kernel
theorem dX2_endLate_34 : decode cX2_endLate 34 = .ok (.aload_n 1, 1) := by decide +kernel
theorem dX2_endLate_35 : decode cX2_endLate 35 = .ok (.getfield 134, 3) := by decide +kernel
theorem dX2_endLate_38 : decode cX2_endLate 38 = .ok (.aload_n 0, 1) := by decide +kernel
theorem dX2_endLate_39 : decode cX2_endLate 39 = .ok (.getfield 76, 3) := by decide +kernel
theorem dX2_endLate_42 : decode cX2_endLate 42 = .ok (.invokevirtual 221, 3) := by decide +kernel
theorem dX2_endLate_45 : decode cX2_endLate 45 = .ok (.aload_n 1, 1) := by decide +kernel
theorem dX2_endLate_46 : decode cX2_endLate 46 = .ok (.getfield 148, 3) := by decide +kernel
theorem dX2_endLate_49 : decode cX2_endLate 49 = .ok (.astore_n 1, 1) := by decide +kernel
theorem dX2_endLate_50 : decode cX2_endLate 50 = .ok (.goto (-45), 3) := by decide +kernel
theorem dX2_endLate_53 : decode cX2_endLate 53 = .ok (.return_, 1) := by decide +kernel
theorem dX2_endWork_0 : decode cX2_endWork 0 = .ok (.aload_n 0, 1) := by decide +kernel
theorem dX2_endWork_1 : decode cX2_endWork 1 = .ok (.getfield 155, 3) := by decide +kernel
theorem dX2_endWork_4 : decode cX2_endWork 4 = .ok (.astore_n 1, 1) := by decide +kernel
theorem dX2_endWork_5 : decode cX2_endWork 5 = .ok (.aload_n 1, 1) := by decide +kernel
theorem dX2_endWork_6 : decode cX2_endWork 6 = .ok (.ifnull 78, 3) := by decide +kernel
theorem dX2_endWork_9 : decode cX2_endWork 9 = .ok (.aload_n 1, 1) := by decide +kernel
theorem dX2_endWork_10 : decode cX2_endWork 10 = .ok (.getfield 131, 3) := by decide +kernel
theorem dX2_endWork_13 : decode cX2_endWork 13 = .ok (.iconst 1, 1) := by decide +kernel
theorem dX2_endWork_14 : decode cX2_endWork 14 = .ok (.if_icmp .ne 62, 3) := by decide +kernel
theorem dX2_endWork_17 : decode cX2_endWork 17 = .ok (.aload_n 1, 1) := by decide +kernel
theorem dX2_endWork_18 : decode cX2_endWork 18 = .ok (.getfield 208, 3) := by decide +kernel
theorem dX2_endWork_21 : decode cX2_endWork 21 = .ok (.aload_n 0, 1) := by decide +kernel
theorem dX2_endWork_22 : decode cX2_endWork 22 = .ok (.getfield 76, 3) := by decide +kernel
theorem dX2_endWork_25 : decode cX2_endWork 25 = .ok (.if_icmp .gt 51, 3) := by decide +kernel
theorem dX2_endWork_28 : decode cX2_endWork 28 = .ok (.aload_n 1, 1) := by decide +kernel
theorem dX2_endWork_29 : decode cX2_endWork 29 = .ok (.getfield 134, 3) := by decide +kernel
theorem dX2_endWork_32 : decode cX2_endWork 32 = .ok (.invokevirtual 224, 3) := by decide +kernel
theorem dX2_endWork_35 : decode cX2_endWork 35 = .ok (.ifCond .eq 24, 3) := by decide +kernel
theorem dX2_endWork_38 : decode cX2_endWork 38 = .ok (.aload_n 0, 1) := by decide +kernel
theorem dX2_endWork_39 : decode cX2_endWork 39 = .ok (.aload_n 1, 1) := by decide +kernel
theorem dX2_endWork_40 : decode cX2_endWork 40 = .ok (.iconst 4, 1) := by decide +kernel
theorem dX2_endWork_41 : decode cX2_endWork 41 = .ok (.invokevirtual 103, 3) := by decide +kernel
theorem dX2_endWork_44 : decode cX2_endWork 44 = .ok (.pop, 1) := by decide +kernel
theorem dX2_endWork_45 : decode cX2_endWork 45 = .ok (.aload_n 1, 1) := by decide +kernel
theorem dX2_endWork_46 : decode cX2_endWork 46 = .ok (.getfield 134, 3) := by decide +kernel
theorem dX2_endWork_49 : decode cX2_endWork 49 = .ok (.aload_n 0, 1) := by decide +kernel
theorem dX2_endWork_50 : decode cX2_endWork 50 = .ok (.getfield 76, 3) := by decide +kernel
theorem dX2_endWork_53 : decode cX2_endWork 53 = .ok (.invokevirtual 221, 3) := by decide +kernel
theorem dX2_endWork_56 : decode cX2_endWork 56 = .ok (.goto 20, 3) := by decide +kernel
theorem dX2_endWork_59 : decode cX2_endWork 59 = .ok (.aload_n 1, 1) := by decide +kernel
theorem dX2_endWork_60 : decode cX2_endWork 60 = .ok (.aload_n 1, 1) := by decide +kernel
theorem dX2_endWork_61 : decode cX2_endWork 61 = .ok (.getfield 134, 3) := by decide +kernel
theorem dX2_endWork_64 : decode cX2_endWork 64 = .ok (.getfield 58, 3) := by decide +kernel
theorem dX2_endWork_67 : decode cX2_endWork 67 = .ok (.putfield 227, 3) := by decide +kernel
theorem dX2_endWork_70 : decode cX2_endWork 70 = .ok (.aload_n 0, 1) := by decide +kernel
theorem dX2_endWork_71 : decode cX2_endWork 71 = .ok (.aload_n 1, 1) := by decide +kernel
theorem dX2_endWork_72 : decode cX2_endWork 72 = .ok (.iconst 0, 1) := by decide +kernel
theorem dX2_endWork_73 : decode cX2_endWork 73 = .ok (.invokevirtual 228, 3) := by decide +kernel
theorem dX2_endWork_76 : decode cX2_endWork 76 = .ok (.aload_n 1, 1) := by decide +kernel
theorem dX2_endWork_77 : decode cX2_endWork 77 = .ok (.getfield 148, 3) := by decide +kernel
theorem dX2_endWork_80 : decode cX2_endWork 80 = .ok (.astore_n 1, 1) := by decide +kernel
theorem dX2_endWork_81 : decode cX2_endWork 81 = .ok (.goto (-76), 3) := by decide +kernel
theorem dX2_endWork_84 : decode cX2_endWork 84 = .ok (.return_, 1) := by decide +kernel
theorem dX2_askAt_0 : decode cX2_askAt 0 = .ok (.aload_n 1, 1) := by decide +kernel
theorem dX2_askAt_1 : decode cX2_askAt 1 = .ok (.iload_n 2, 1) := by decide +kernel
theorem dX2_askAt_2 : decode cX2_askAt 2 = .ok (.invokevirtual 231, 3) := by decide +kernel
theorem dX2_askAt_5 : decode cX2_askAt 5 = .ok (.astore_n 3, 1) := by decide +kernel
theorem dX2_askAt_6 : decode cX2_askAt 6 = .ok (.aload_n 3, 1) := by decide +kernel
theorem dX2_askAt_7 : decode cX2_askAt 7 = .ok (.ifnonnull 13, 3) := by decide +kernel
theorem dX2_askAt_10 : decode cX2_askAt 10 = .ok (.aload_n 0, 1) := by decide +kernel
theorem dX2_askAt_11 : decode cX2_askAt 11 = .ok (.aload_n 1, 1) := by decide +kernel
theorem dX2_askAt_12 : decode cX2_askAt 12 = .ok (.iconst 3, 1) := by decide +kernel
theorem dX2_askAt_13 : decode cX2_askAt 13 = .ok (.invokevirtual 103, 3) := by decide +kernel
theorem dX2_askAt_16 : decode cX2_askAt 16 = .ok (.pop, 1) := by decide +kernel
theorem dX2_askAt_17 : decode cX2_askAt 17 = .ok (.goto 9, 3) := by decide +kernel
theorem dX2_askAt_20 : decode cX2_askAt 20 = .ok (.aload_n 1, 1) := by decide +kernel
theorem dX2_askAt_21 : decode cX2_askAt 21 = .ok (.aload_n 3, 1) := by decide +kernel
theorem dX2_askAt_22 : decode cX2_askAt 22 = .ok (.iload_n 2, 1) := by decide +kernel
theorem dX2_askAt_23 : decode cX2_askAt 23 = .ok (.invokevirtual 234, 3) := by decide +kernel
theorem dX2_askAt_26 : decode cX2_askAt 26 = .ok (.return_, 1) := by decide +kernel
theorem dX2_judgeAsking_0 : decode cX2_judgeAsking 0 = .ok (.aload_n 0, 1) := by decide +kernel
theorem dX2_judgeAsking_1 : decode cX2_judgeAsking 1 = .ok (.getfield 187, 3) := by decide +kernel
theorem dX2_judgeAsking_4 : decode cX2_judgeAsking 4 = .ok (.astore_n 1, 1) := by decide +kernel
theorem dX2_judgeAsking_5 : decode cX2_judgeAsking 5 = .ok (.aload_n 1, 1) := by decide +kernel
theorem dX2_judgeAsking_6 : decode cX2_judgeAsking 6 = .ok (.ifnull 41, 3) := by decide +kernel
theorem dX2_judgeAsking_9 : decode cX2_judgeAsking 9 = .ok (.aload_n 1, 1) := by decide +kernel
theorem dX2_judgeAsking_10 : decode cX2_judgeAsking 10 = .ok (.getfield 238, 3) := by decide +kernel
theorem dX2_judgeAsking_13 : decode cX2_judgeAsking 13 = .ok (.astore_n 2, 1) := by decide +kernel
theorem dX2_judgeAsking_14 : decode cX2_judgeAsking 14 = .ok (.aload_n 1, 1) := by decide +kernel
theorem dX2_judgeAsking_15 : decode cX2_judgeAsking 15 = .ok (.getfield 131, 3) := by decide +kernel
theorem dX2_judgeAsking_18 : decode cX2_judgeAsking 18 = .ok (.iconst 2, 1) := by decide +kernel
theorem dX2_judgeAsking_19 : decode cX2_judgeAsking 19 = .ok (.if_icmp .ne 20, 3) := by decide +kernel
theorem dX2_judgeAsking_22 : decode cX2_judgeAsking 22 = .ok (.aload_n 1, 1) := by decide +kernel
theorem dX2_judgeAsking_23 : decode cX2_judgeAsking 23 = .ok (.getfield 241, 3) := by decide +kernel
theorem dX2_judgeAsking_26 : decode cX2_judgeAsking 26 = .ok (.ifCond .ne 13, 3) := by decide +kernel
theorem dX2_judgeAsking_29 : decode cX2_judgeAsking 29 = .ok (.aload_n 2, 1) := by decide +kernel
theorem dX2_judgeAsking_30 : decode cX2_judgeAsking 30 = .ok (.ifnull 9, 3) := by decide +kernel
theorem dX2_judgeAsking_33 : decode cX2_judgeAsking 33 = .ok (.aload_n 0, 1) := by decide +kernel
theorem dX2_judgeAsking_34 : decode cX2_judgeAsking 34 = .ok (.aload_n 1, 1) := by decide +kernel
theorem dX2_judgeAsking_35 : decode cX2_judgeAsking 35 = .ok (.aload_n 2, 1) := by decide +kernel
theorem dX2_judgeAsking_36 : decode cX2_judgeAsking 36 = .ok (.invokevirtual 245, 3) := by decide +kernel
theorem dX2_judgeAsking_39 : decode cX2_judgeAsking 39 = .ok (.aload_n 1, 1) := by decide +kernel
theorem dX2_judgeAsking_40 : decode cX2_judgeAsking 40 = .ok (.getfield 190, 3) := by decide +kernel
theorem dX2_judgeAsking_43 : decode cX2_judgeAsking 43 = .ok (.astore_n 1, 1) := by decide +kernel
theorem dX2_judgeAsking_44 : decode cX2_judgeAsking 44 = .ok (.goto (-39), 3) := by decide +kernel
theorem dX2_judgeAsking_47 : decode cX2_judgeAsking 47 = .ok (.return_, 1) := by decide +kernel
theorem dX2_judge_0 : decode cX2_judge 0 = .ok (.aload_n 1, 1) := by decide +kernel
theorem dX2_judge_1 : decode cX2_judge 1 = .ok (.getfield 249, 3) := by decide +kernel
theorem dX2_judge_4 : decode cX2_judge 4 = .ok (.ifCond .eq 22, 3) := by decide +kernel
theorem dX2_judge_7 : decode cX2_judge 7 = .ok (.aload_n 0, 1) := by decide +kernel
theorem dX2_judge_8 : decode cX2_judge 8 = .ok (.aload_n 1, 1) := by decide +kernel
theorem dX2_judge_9 : decode cX2_judge 9 = .ok (.invokevirtual 252, 3) := by decide +kernel
theorem dX2_judge_12 : decode cX2_judge 12 = .ok (.aload_n 0, 1) := by decide +kernel
theorem dX2_judge_13 : decode cX2_judge 13 = .ok (.aload_n 1, 1) := by decide +kernel
theorem dX2_judge_14 : decode cX2_judge 14 = .ok (.aload_n 1, 1) := by decide +kernel
theorem dX2_judge_15 : decode cX2_judge 15 = .ok (.getfield 145, 3) := by decide +kernel
theorem dX2_judge_18 : decode cX2_judge 18 = .ok (.iconst 1, 1) := by decide +kernel
theorem dX2_judge_19 : decode cX2_judge 19 = .ok (.iadd, 1) := by decide +kernel
theorem dX2_judge_20 : decode cX2_judge 20 = .ok (.invokevirtual 228, 3) := by decide +kernel
theorem dX2_judge_23 : decode cX2_judge 23 = .ok (.goto 48, 3) := by decide +kernel
theorem dX2_judge_26 : decode cX2_judge 26 = .ok (.aload_n 1, 1) := by decide +kernel
theorem dX2_judge_27 : decode cX2_judge 27 = .ok (.getfield 255, 3) := by decide +kernel
theorem dX2_judge_30 : decode cX2_judge 30 = .ok (.ifCond .ne 12, 3) := by decide +kernel
theorem dX2_judge_33 : decode cX2_judge 33 = .ok (.aload_n 0, 1) := by decide +kernel
theorem dX2_judge_34 : decode cX2_judge 34 = .ok (.aload_n 1, 1) := by decide +kernel
theorem dX2_judge_35 : decode cX2_judge 35 = .ok (.aload_n 2, 1) := by decide +kernel
theorem dX2_judge_36 : decode cX2_judge 36 = .ok (.invokevirtual 258, 3) := by decide +kernel
theorem dX2_judge_39 : decode cX2_judge 39 = .ok (.goto 32, 3) := by decide +kernel
theorem dX2_judge_42 : decode cX2_judge 42 = .ok (.aload_n 1, 1) := by decide +kernel
theorem dX2_judge_43 : decode cX2_judge 43 = .ok (.getfield 261, 3) := by decide +kernel
theorem dX2_judge_46 : decode cX2_judge 46 = .ok (.iconst 1, 1) := by decide +kernel
theorem dX2_judge_47 : decode cX2_judge 47 = .ok (.if_icmp .ne 24, 3) := by decide +kernel
theorem dX2_judge_50 : decode cX2_judge 50 = .ok (.aload_n 2, 1) := by decide +kernel
theorem dX2_judge_51 : decode cX2_judge 51 = .ok (.aload_n 0, 1) := by decide +kernel
theorem dX2_judge_52 : decode cX2_judge 52 = .ok (.getfield 76, 3) := by decide +kernel
theorem dX2_judge_55 : decode cX2_judge 55 = .ok (.aload_n 1, 1) := by decide +kernel
theorem dX2_judge_56 : decode cX2_judge 56 = .ok (.getfield 264, 3) := by decide +kernel
theorem dX2_judge_59 : decode cX2_judge 59 = .ok (.isub, 1) := by decide +kernel
theorem dX2_judge_60 : decode cX2_judge 60 = .ok (.invokevirtual 267, 3) := by decide +kernel
theorem dX2_judge_63 : decode cX2_judge 63 = .ok (.ifCond .eq 8, 3) := by decide +kernel
theorem dX2_judge_66 : decode cX2_judge 66 = .ok (.aload_n 1, 1) := by decide +kernel
theorem dX2_judge_67 : decode cX2_judge 67 = .ok (.iconst 1, 1) := by decide +kernel
theorem dX2_judge_68 : decode cX2_judge 68 = .ok (.putfield 241, 3) := by decide +kernel
theorem dX2_judge_71 : decode cX2_judge 71 = .ok (.return_, 1) := by decide +kernel
theorem dX2_cancelTries_0 : decode cX2_cancelTries 0 = .ok (.aload_n 1, 1) := by decide +kernel
theorem dX2_cancelTries_1 : decode cX2_cancelTries 1 = .ok (.getfield 148, 3) := by decide +kernel
theorem dX2_cancelTries_4 : decode cX2_cancelTries 4 = .ok (.astore_n 2, 1) := by decide +kernel
theorem dX2_cancelTries_5 : decode cX2_cancelTries 5 = .ok (.aload_n 2, 1) := by decide +kernel
theorem dX2_cancelTries_6 : decode cX2_cancelTries 6 = .ok (.ifnull 34, 3) := by decide +kernel
theorem dX2_cancelTries_9 : decode cX2_cancelTries 9 = .ok (.aload_n 2, 1) := by decide +kernel
theorem dX2_cancelTries_10 : decode cX2_cancelTries 10 = .ok (.getfield 97, 3) := by decide +kernel
theorem dX2_cancelTries_13 : decode cX2_cancelTries 13 = .ok (.aload_n 1, 1) := by decide +kernel
theorem dX2_cancelTries_14 : decode cX2_cancelTries 14 = .ok (.if_acmp .ne 18, 3) := by decide +kernel
theorem dX2_cancelTries_17 : decode cX2_cancelTries 17 = .ok (.aload_n 2, 1) := by decide +kernel
theorem dX2_cancelTries_18 : decode cX2_cancelTries 18 = .ok (.invokevirtual 94, 3) := by decide +kernel
theorem dX2_cancelTries_21 : decode cX2_cancelTries 21 = .ok (.ifCond .ne 11, 3) := by decide +kernel
theorem dX2_cancelTries_24 : decode cX2_cancelTries 24 = .ok (.aload_n 0, 1) := by decide +kernel
theorem dX2_cancelTries_25 : decode cX2_cancelTries 25 = .ok (.aload_n 2, 1) := by decide +kernel
theorem dX2_cancelTries_26 : decode cX2_cancelTries 26 = .ok (.bipush 7, 2) := by decide +kernel
theorem dX2_cancelTries_28 : decode cX2_cancelTries 28 = .ok (.invokevirtual 103, 3) := by decide +kernel
theorem dX2_cancelTries_31 : decode cX2_cancelTries 31 = .ok (.pop, 1) := by decide +kernel
theorem dX2_cancelTries_32 : decode cX2_cancelTries 32 = .ok (.aload_n 2, 1) := by decide +kernel
theorem dX2_cancelTries_33 : decode cX2_cancelTries 33 = .ok (.getfield 148, 3) := by decide +kernel
theorem dX2_cancelTries_36 : decode cX2_cancelTries 36 = .ok (.astore_n 2, 1) := by decide +kernel
theorem dX2_cancelTries_37 : decode cX2_cancelTries 37 = .ok (.goto (-32), 3) := by decide +kernel
theorem dX2_cancelTries_40 : decode cX2_cancelTries 40 = .ok (.return_, 1) := by decide +kernel
theorem dX2_tryAgain_0 : decode cX2_tryAgain 0 = .ok (.aload_n 1, 1) := by decide +kernel
theorem dX2_tryAgain_1 : decode cX2_tryAgain 1 = .ok (.getfield 270, 3) := by decide +kernel
theorem dX2_tryAgain_4 : decode cX2_tryAgain 4 = .ok (.iconst 2, 1) := by decide +kernel
theorem dX2_tryAgain_5 : decode cX2_tryAgain 5 = .ok (.if_icmp .ge 28, 3) := by decide +kernel
theorem dX2_tryAgain_8 : decode cX2_tryAgain 8 = .ok (.aload_n 2, 1) := by decide +kernel
theorem dX2_tryAgain_9 : decode cX2_tryAgain 9 = .ok (.invokevirtual 273, 3) := by decide +kernel
theorem dX2_tryAgain_12 : decode cX2_tryAgain 12 = .ok (.ifCond .eq 21, 3) := by decide +kernel
theorem dX2_tryAgain_15 : decode cX2_tryAgain 15 = .ok (.aload_n 1, 1) := by decide +kernel
theorem dX2_tryAgain_16 : decode cX2_tryAgain 16 = .ok (.dup, 1) := by decide +kernel
theorem dX2_tryAgain_17 : decode cX2_tryAgain 17 = .ok (.getfield 270, 3) := by decide +kernel
theorem dX2_tryAgain_20 : decode cX2_tryAgain 20 = .ok (.iconst 1, 1) := by decide +kernel
theorem dX2_tryAgain_21 : decode cX2_tryAgain 21 = .ok (.iadd, 1) := by decide +kernel
theorem dX2_tryAgain_22 : decode cX2_tryAgain 22 = .ok (.putfield 270, 3) := by decide +kernel
theorem dX2_tryAgain_25 : decode cX2_tryAgain 25 = .ok (.aload_n 1, 1) := by decide +kernel
theorem dX2_tryAgain_26 : decode cX2_tryAgain 26 = .ok (.iconst 1, 1) := by decide +kernel
theorem dX2_tryAgain_27 : decode cX2_tryAgain 27 = .ok (.putfield 241, 3) := by decide +kernel
theorem dX2_tryAgain_30 : decode cX2_tryAgain 30 = .ok (.goto 10, 3) := by decide +kernel
theorem dX2_tryAgain_33 : decode cX2_tryAgain 33 = .ok (.aload_n 0, 1) := by decide +kernel
theorem dX2_tryAgain_34 : decode cX2_tryAgain 34 = .ok (.aload_n 1, 1) := by decide +kernel
theorem dX2_tryAgain_35 : decode cX2_tryAgain 35 = .ok (.iconst 4, 1) := by decide +kernel
theorem dX2_tryAgain_36 : decode cX2_tryAgain 36 = .ok (.invokevirtual 103, 3) := by decide +kernel
theorem dX2_tryAgain_39 : decode cX2_tryAgain 39 = .ok (.pop, 1) := by decide +kernel
theorem dX2_tryAgain_40 : decode cX2_tryAgain 40 = .ok (.return_, 1) := by decide +kernel
theorem dX2_makeTries_0 : decode cX2_makeTries 0 = .ok (.aload_n 0, 1) := by decide +kernel
theorem dX2_makeTries_1 : decode cX2_makeTries 1 = .ok (.getfield 187, 3) := by decide +kernel
theorem dX2_makeTries_4 : decode cX2_makeTries 4 = .ok (.astore_n 1, 1) := by decide +kernel
theorem dX2_makeTries_5 : decode cX2_makeTries 5 = .ok (.aload_n 0, 1) := by decide +kernel
theorem dX2_makeTries_6 : decode cX2_makeTries 6 = .ok (.getfield 155, 3) := by decide +kernel
theorem dX2_makeTries_9 : decode cX2_makeTries 9 = .ok (.astore_n 2, 1) := by decide +kernel
theorem dX2_makeTries_10 : decode cX2_makeTries 10 = .ok (.aload_n 2, 1) := by decide +kernel
theorem dX2_makeTries_11 : decode cX2_makeTries 11 = .ok (.ifnull 49, 3) := by decide +kernel
theorem dX2_makeTries_14 : decode cX2_makeTries 14 = .ok (.aload_n 2, 1) := by decide +kernel
theorem dX2_makeTries_15 : decode cX2_makeTries 15 = .ok (.getfield 238, 3) := by decide +kernel
theorem dX2_makeTries_18 : decode cX2_makeTries 18 = .ok (.astore_n 3, 1) := by decide +kernel
theorem dX2_makeTries_19 : decode cX2_makeTries 19 = .ok (.aload_n 2, 1) := by decide +kernel
theorem dX2_makeTries_20 : decode cX2_makeTries 20 = .ok (.getfield 131, 3) := by decide +kernel
theorem dX2_makeTries_23 : decode cX2_makeTries 23 = .ok (.iconst 2, 1) := by decide +kernel
theorem dX2_makeTries_24 : decode cX2_makeTries 24 = .ok (.if_icmp .ne 20, 3) := by decide +kernel
theorem dX2_makeTries_27 : decode cX2_makeTries 27 = .ok (.aload_n 2, 1) := by decide +kernel
theorem dX2_makeTries_28 : decode cX2_makeTries 28 = .ok (.getfield 241, 3) := by decide +kernel
theorem dX2_makeTries_31 : decode cX2_makeTries 31 = .ok (.ifCond .eq 13, 3) := by decide +kernel
theorem dX2_makeTries_34 : decode cX2_makeTries 34 = .ok (.aload_n 3, 1) := by decide +kernel
theorem dX2_makeTries_35 : decode cX2_makeTries 35 = .ok (.ifnull 9, 3) := by decide +kernel
theorem dX2_makeTries_38 : decode cX2_makeTries 38 = .ok (.aload_n 0, 1) := by decide +kernel
theorem dX2_makeTries_39 : decode cX2_makeTries 39 = .ok (.aload_n 2, 1) := by decide +kernel
theorem dX2_makeTries_40 : decode cX2_makeTries 40 = .ok (.aload_n 3, 1) := by decide +kernel
theorem dX2_makeTries_41 : decode cX2_makeTries 41 = .ok (.invokevirtual 276, 3) := by decide +kernel
theorem dX2_makeTries_44 : decode cX2_makeTries 44 = .ok (.aload_n 2, 1) := by decide +kernel
theorem dX2_makeTries_45 : decode cX2_makeTries 45 = .ok (.aload_n 1, 1) := by decide +kernel
theorem dX2_makeTries_46 : decode cX2_makeTries 46 = .ok (.if_acmp .ne 6, 3) := by decide +kernel
theorem dX2_makeTries_49 : decode cX2_makeTries 49 = .ok (.goto 11, 3) := by decide +kernel
theorem dX2_makeTries_52 : decode cX2_makeTries 52 = .ok (.aload_n 2, 1) := by decide +kernel
theorem dX2_makeTries_53 : decode cX2_makeTries 53 = .ok (.getfield 148, 3) := by decide +kernel
theorem dX2_makeTries_56 : decode cX2_makeTries 56 = .ok (.astore_n 2, 1) := by decide +kernel
theorem dX2_makeTries_57 : decode cX2_makeTries 57 = .ok (.goto (-47), 3) := by decide +kernel
theorem dX2_makeTries_60 : decode cX2_makeTries 60 = .ok (.return_, 1) := by decide +kernel
theorem dX2_makeTry_0 : decode cX2_makeTry 0 = .ok (.aload_n 1, 1) := by decide +kernel
theorem dX2_makeTry_1 : decode cX2_makeTry 1 = .ok (.iconst 0, 1) := by decide +kernel
theorem dX2_makeTry_2 : decode cX2_makeTry 2 = .ok (.putfield 241, 3) := by decide +kernel
theorem dX2_makeTry_5 : decode cX2_makeTry 5 = .ok (.aload_n 0, 1) := by decide +kernel
theorem dX2_makeTry_6 : decode cX2_makeTry 6 = .ok (.invokevirtual 70, 3) := by decide +kernel
theorem dX2_makeTry_9 : decode cX2_makeTry 9 = .ok (.ifCond .eq 11, 3) := by decide +kernel
theorem dX2_makeTry_12 : decode cX2_makeTry 12 = .ok (.aload_n 0, 1) := by decide +kernel
theorem dX2_makeTry_13 : decode cX2_makeTry 13 = .ok (.aload_n 1, 1) := by decide +kernel
theorem dX2_makeTry_14 : decode cX2_makeTry 14 = .ok (.iconst 4, 1) := by decide +kernel
theorem dX2_makeTry_15 : decode cX2_makeTry 15 = .ok (.invokevirtual 103, 3) := by decide +kernel
theorem dX2_makeTry_18 : decode cX2_makeTry 18 = .ok (.pop, 1) := by decide +kernel
theorem dX2_makeTry_19 : decode cX2_makeTry 19 = .ok (.return_, 1) := by decide +kernel
theorem dX2_makeTry_20 : decode cX2_makeTry 20 = .ok (.aload_n 1, 1) := by decide +kernel
theorem dX2_makeTry_21 : decode cX2_makeTry 21 = .ok (.aload_n 0, 1) := by decide +kernel
theorem dX2_makeTry_22 : decode cX2_makeTry 22 = .ok (.getfield 76, 3) := by decide +kernel
theorem dX2_makeTry_25 : decode cX2_makeTry 25 = .ok (.invokevirtual 279, 3) := by decide +kernel
theorem dX2_makeTry_28 : decode cX2_makeTry 28 = .ok (.aload_n 0, 1) := by decide +kernel
theorem dX2_makeTry_29 : decode cX2_makeTry 29 = .ok (.aload_n 0, 1) := by decide +kernel
theorem dX2_makeTry_30 : decode cX2_makeTry 30 = .ok (.aload_n 2, 1) := by decide +kernel
theorem dX2_makeTry_31 : decode cX2_makeTry 31 = .ok (.aload_n 1, 1) := by decide +kernel
theorem dX2_makeTry_32 : decode cX2_makeTry 32 = .ok (.aload_n 1, 1) := by decide +kernel
theorem dX2_makeTry_33 : decode cX2_makeTry 33 = .ok (.getfield 139, 3) := by decide +kernel
theorem dX2_makeTry_36 : decode cX2_makeTry 36 = .ok (.iconst 1, 1) := by decide +kernel
theorem dX2_makeTry_37 : decode cX2_makeTry 37 = .ok (.isub, 1) := by decide +kernel
theorem dX2_makeTry_38 : decode cX2_makeTry 38 = .ok (.invokevirtual 79, 3) := by decide +kernel
theorem dX2_makeTry_41 : decode cX2_makeTry 41 = .ok (.invokevirtual 83, 3) := by decide +kernel
theorem dX2_makeTry_44 : decode cX2_makeTry 44 = .ok (.return_, 1) := by decide +kernel
theorem dX2_startQueued_0 : decode cX2_startQueued 0 = .ok (.iconst 0, 1) := by decide +kernel
theorem dX2_startQueued_1 : decode cX2_startQueued 1 = .ok (.istore_n 1, 1) := by decide +kernel
theorem dX2_startQueued_2 : decode cX2_startQueued 2 = .ok (.iload_n 1, 1) := by decide +kernel
theorem dX2_startQueued_3 : decode cX2_startQueued 3 = .ok (.aload_n 0, 1) := by decide +kernel
theorem dX2_startQueued_4 : decode cX2_startQueued 4 = .ok (.getfield 11, 3) := by decide +kernel
theorem dX2_startQueued_7 : decode cX2_startQueued 7 = .ok (.arraylength, 1) := by decide +kernel
theorem dX2_startQueued_8 : decode cX2_startQueued 8 = .ok (.if_icmp .ge 33, 3) := by decide +kernel
theorem dX2_startQueued_11 : decode cX2_startQueued 11 = .ok (.aload_n 0, 1) := by decide +kernel
theorem dX2_startQueued_12 : decode cX2_startQueued 12 = .ok (.getfield 11, 3) := by decide +kernel
theorem dX2_startQueued_15 : decode cX2_startQueued 15 = .ok (.iload_n 1, 1) := by decide +kernel
theorem dX2_startQueued_16 : decode cX2_startQueued 16 = .ok (.aaload, 1) := by decide +kernel
theorem dX2_startQueued_17 : decode cX2_startQueued 17 = .ok (.astore_n 2, 1) := by decide +kernel
theorem dX2_startQueued_18 : decode cX2_startQueued 18 = .ok (.aload_n 2, 1) := by decide +kernel
theorem dX2_startQueued_19 : decode cX2_startQueued 19 = .ok (.ifnull 16, 3) := by decide +kernel
theorem dX2_startQueued_22 : decode cX2_startQueued 22 = .ok (.aload_n 2, 1) := by decide +kernel
theorem dX2_startQueued_23 : decode cX2_startQueued 23 = .ok (.iconst 0, 1) := by decide +kernel
theorem dX2_startQueued_24 : decode cX2_startQueued 24 = .ok (.invokevirtual 167, 3) := by decide +kernel
theorem dX2_startQueued_27 : decode cX2_startQueued 27 = .ok (.ifCond .le 8, 3) := by decide +kernel
theorem dX2_startQueued_30 : decode cX2_startQueued 30 = .ok (.aload_n 0, 1) := by decide +kernel
theorem dX2_startQueued_31 : decode cX2_startQueued 31 = .ok (.aload_n 2, 1) := by decide +kernel
theorem dX2_startQueued_32 : decode cX2_startQueued 32 = .ok (.invokevirtual 282, 3) := by decide +kernel
theorem dX2_startQueued_35 : decode cX2_startQueued 35 = .ok (.iinc 1 1, 3) := by decide +kernel
theorem dX2_startQueued_38 : decode cX2_startQueued 38 = .ok (.goto (-36), 3) := by decide +kernel
theorem dX2_startQueued_41 : decode cX2_startQueued 41 = .ok (.return_, 1) := by decide +kernel
theorem dX2_startQueuedOf_0 : decode cX2_startQueuedOf 0 = .ok (.aload_n 0, 1) := by decide +kernel
theorem dX2_startQueuedOf_1 : decode cX2_startQueuedOf 1 = .ok (.getfield 155, 3) := by decide +kernel
theorem dX2_startQueuedOf_4 : decode cX2_startQueuedOf 4 = .ok (.astore_n 2, 1) := by decide +kernel
theorem dX2_startQueuedOf_5 : decode cX2_startQueuedOf 5 = .ok (.aload_n 2, 1) := by decide +kernel
theorem dX2_startQueuedOf_6 : decode cX2_startQueuedOf 6 = .ok (.ifnull 54, 3) := by decide +kernel
theorem dX2_startQueuedOf_9 : decode cX2_startQueuedOf 9 = .ok (.aload_n 1, 1) := by decide +kernel
theorem dX2_startQueuedOf_10 : decode cX2_startQueuedOf 10 = .ok (.invokevirtual 196, 3) := by decide +kernel
theorem dX2_startQueuedOf_13 : decode cX2_startQueuedOf 13 = .ok (.ifCond .eq 47, 3) := by decide +kernel
theorem dX2_startQueuedOf_16 : decode cX2_startQueuedOf 16 = .ok (.aload_n 2, 1) := by decide +kernel
theorem dX2_startQueuedOf_17 : decode cX2_startQueuedOf 17 = .ok (.aload_n 1, 1) := by decide +kernel
theorem dX2_startQueuedOf_18 : decode cX2_startQueuedOf 18 = .ok (.iconst 0, 1) := by decide +kernel
theorem dX2_startQueuedOf_19 : decode cX2_startQueuedOf 19 = .ok (.invokevirtual 158, 3) := by decide +kernel
theorem dX2_startQueuedOf_22 : decode cX2_startQueuedOf 22 = .ok (.ifCond .eq 30, 3) := by decide +kernel
theorem dX2_startQueuedOf_25 : decode cX2_startQueuedOf 25 = .ok (.aload_n 2, 1) := by decide +kernel
theorem dX2_startQueuedOf_26 : decode cX2_startQueuedOf 26 = .ok (.aload_n 0, 1) := by decide +kernel
theorem dX2_startQueuedOf_27 : decode cX2_startQueuedOf 27 = .ok (.getfield 76, 3) := by decide +kernel
theorem dX2_startQueuedOf_30 : decode cX2_startQueuedOf 30 = .ok (.invokevirtual 193, 3) := by decide +kernel
theorem dX2_startQueuedOf_33 : decode cX2_startQueuedOf 33 = .ok (.ifCond .eq 11, 3) := by decide +kernel
theorem dX2_startQueuedOf_36 : decode cX2_startQueuedOf 36 = .ok (.aload_n 0, 1) := by decide +kernel
theorem dX2_startQueuedOf_37 : decode cX2_startQueuedOf 37 = .ok (.aload_n 2, 1) := by decide +kernel
theorem dX2_startQueuedOf_38 : decode cX2_startQueuedOf 38 = .ok (.invokevirtual 199, 3) := by decide +kernel
theorem dX2_startQueuedOf_41 : decode cX2_startQueuedOf 41 = .ok (.goto 11, 3) := by decide +kernel
theorem dX2_startQueuedOf_44 : decode cX2_startQueuedOf 44 = .ok (.aload_n 0, 1) := by decide +kernel
theorem dX2_startQueuedOf_45 : decode cX2_startQueuedOf 45 = .ok (.aload_n 2, 1) := by decide +kernel
theorem dX2_startQueuedOf_46 : decode cX2_startQueuedOf 46 = .ok (.bipush 6, 2) := by decide +kernel
theorem dX2_startQueuedOf_48 : decode cX2_startQueuedOf 48 = .ok (.invokevirtual 103, 3) := by decide +kernel
theorem dX2_startQueuedOf_51 : decode cX2_startQueuedOf 51 = .ok (.pop, 1) := by decide +kernel
theorem dX2_startQueuedOf_52 : decode cX2_startQueuedOf 52 = .ok (.aload_n 2, 1) := by decide +kernel
theorem dX2_startQueuedOf_53 : decode cX2_startQueuedOf 53 = .ok (.getfield 148, 3) := by decide +kernel
theorem dX2_startQueuedOf_56 : decode cX2_startQueuedOf 56 = .ok (.astore_n 2, 1) := by decide +kernel
theorem dX2_startQueuedOf_57 : decode cX2_startQueuedOf 57 = .ok (.goto (-52), 3) := by decide +kernel
theorem dX2_startQueuedOf_60 : decode cX2_startQueuedOf 60 = .ok (.return_, 1) := by decide +kernel
