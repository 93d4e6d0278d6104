theorem dX0_init_0 : decode cX0_init 0 = .ok (.aload_n 0, 1) := by decide +kernel
theorem dX0_init_1 : decode cX0_init 1 = .ok (.invokespecial 3, 3) := by decide +kernel
theorem dX0_init_4 : decode cX0_init 4 = .ok (.aload_n 0, 1) := by decide +kernel
theorem dX0_init_5 : decode cX0_init 5 = .ok (.getstatic 9, 3) := by decide +kernel
theorem dX0_init_8 : decode cX0_init 8 = .ok (.arraylength, 1) := by decide +kernel
theorem dX0_init_9 : decode cX0_init 9 = .ok (.newarray .int, 2) := by decide +kernel
theorem dX0_init_11 : decode cX0_init 11 = .ok (.putfield 13, 3) := by decide +kernel
theorem dX0_init_14 : decode cX0_init 14 = .ok (.aload_n 0, 1) := by decide +kernel
theorem dX0_init_15 : decode cX0_init 15 = .ok (.bipush 20, 2) := by decide +kernel
theorem dX0_init_17 : decode cX0_init 17 = .ok (.newarray .int, 2) := by decide +kernel
theorem dX0_init_19 : decode cX0_init 19 = .ok (.putfield 18, 3) := by decide +kernel
theorem dX0_init_22 : decode cX0_init 22 = .ok (.aload_n 0, 1) := by decide +kernel
theorem dX0_init_23 : decode cX0_init 23 = .ok (.getstatic 9, 3) := by decide +kernel
theorem dX0_init_26 : decode cX0_init 26 = .ok (.iconst 0, 1) := by decide +kernel
theorem dX0_init_27 : decode cX0_init 27 = .ok (.iaload, 1) := by decide +kernel
theorem dX0_init_28 : decode cX0_init 28 = .ok (.invokevirtual 21, 3) := by decide +kernel
theorem dX0_init_31 : decode cX0_init 31 = .ok (.return_, 1) := by decide +kernel
theorem dX0_begin_0 : decode cX0_begin 0 = .ok (.getstatic 9, 3) := by decide +kernel
theorem dX0_begin_3 : decode cX0_begin 3 = .ok (.iconst 0, 1) := by decide +kernel
theorem dX0_begin_4 : decode cX0_begin 4 = .ok (.aload_n 0, 1) := by decide +kernel
theorem dX0_begin_5 : decode cX0_begin 5 = .ok (.getfield 13, 3) := by decide +kernel
theorem dX0_begin_8 : decode cX0_begin 8 = .ok (.iconst 0, 1) := by decide +kernel
theorem dX0_begin_9 : decode cX0_begin 9 = .ok (.aload_n 0, 1) := by decide +kernel
theorem dX0_begin_10 : decode cX0_begin 10 = .ok (.getfield 13, 3) := by decide +kernel
theorem dX0_begin_13 : decode cX0_begin 13 = .ok (.arraylength, 1) := by decide +kernel
theorem dX0_begin_14 : decode cX0_begin 14 = .ok (.invokestatic 25, 3) := by decide +kernel
theorem dX0_begin_17 : decode cX0_begin 17 = .ok (.aload_n 0, 1) := by decide +kernel
theorem dX0_begin_18 : decode cX0_begin 18 = .ok (.getfield 13, 3) := by decide +kernel
theorem dX0_begin_21 : decode cX0_begin 21 = .ok (.iconst 0, 1) := by decide +kernel
theorem dX0_begin_22 : decode cX0_begin 22 = .ok (.iload_n 1, 1) := by decide +kernel
theorem dX0_begin_23 : decode cX0_begin 23 = .ok (.iastore, 1) := by decide +kernel
theorem dX0_begin_24 : decode cX0_begin 24 = .ok (.aload_n 0, 1) := by decide +kernel
theorem dX0_begin_25 : decode cX0_begin 25 = .ok (.iconst 0, 1) := by decide +kernel
theorem dX0_begin_26 : decode cX0_begin 26 = .ok (.putfield 31, 3) := by decide +kernel
theorem dX0_begin_29 : decode cX0_begin 29 = .ok (.aload_n 0, 1) := by decide +kernel
theorem dX0_begin_30 : decode cX0_begin 30 = .ok (.iconst 0, 1) := by decide +kernel
theorem dX0_begin_31 : decode cX0_begin 31 = .ok (.putfield 35, 3) := by decide +kernel
theorem dX0_begin_34 : decode cX0_begin 34 = .ok (.aload_n 0, 1) := by decide +kernel
theorem dX0_begin_35 : decode cX0_begin 35 = .ok (.iconst 0, 1) := by decide +kernel
theorem dX0_begin_36 : decode cX0_begin 36 = .ok (.putfield 38, 3) := by decide +kernel
theorem dX0_begin_39 : decode cX0_begin 39 = .ok (.aload_n 0, 1) := by decide +kernel
theorem dX0_begin_40 : decode cX0_begin 40 = .ok (.iconst 0, 1) := by decide +kernel
theorem dX0_begin_41 : decode cX0_begin 41 = .ok (.putfield 41, 3) := by decide +kernel
theorem dX0_begin_44 : decode cX0_begin 44 = .ok (.aload_n 0, 1) := by decide +kernel
theorem dX0_begin_45 : decode cX0_begin 45 = .ok (.iconst 0, 1) := by decide +kernel
theorem dX0_begin_46 : decode cX0_begin 46 = .ok (.putfield 44, 3) := by decide +kernel
theorem dX0_begin_49 : decode cX0_begin 49 = .ok (.aload_n 0, 1) := by decide +kernel
theorem dX0_begin_50 : decode cX0_begin 50 = .ok (.iconst 0, 1) := by decide +kernel
theorem dX0_begin_51 : decode cX0_begin 51 = .ok (.putfield 47, 3) := by decide +kernel
theorem dX0_begin_54 : decode cX0_begin 54 = .ok (.aload_n 0, 1) := by decide +kernel
theorem dX0_begin_55 : decode cX0_begin 55 = .ok (.iconst 0, 1) := by decide +kernel
theorem dX0_begin_56 : decode cX0_begin 56 = .ok (.putfield 50, 3) := by decide +kernel
theorem dX0_begin_59 : decode cX0_begin 59 = .ok (.aload_n 0, 1) := by decide +kernel
theorem dX0_begin_60 : decode cX0_begin 60 = .ok (.iconst 0, 1) := by decide +kernel
theorem dX0_begin_61 : decode cX0_begin 61 = .ok (.putfield 53, 3) := by decide +kernel
theorem dX0_begin_64 : decode cX0_begin 64 = .ok (.aload_n 0, 1) := by decide +kernel
theorem dX0_begin_65 : decode cX0_begin 65 = .ok (.lconst 0, 1) := by decide +kernel
theorem dX0_begin_66 : decode cX0_begin 66 = .ok (.putfield 56, 3) := by decide +kernel
theorem dX0_begin_69 : decode cX0_begin 69 = .ok (.aload_n 0, 1) := by decide +kernel
theorem dX0_begin_70 : decode cX0_begin 70 = .ok (.lconst 0, 1) := by decide +kernel
theorem dX0_begin_71 : decode cX0_begin 71 = .ok (.putfield 60, 3) := by decide +kernel
theorem dX0_begin_74 : decode cX0_begin 74 = .ok (.aload_n 0, 1) := by decide +kernel
theorem dX0_begin_75 : decode cX0_begin 75 = .ok (.lconst 0, 1) := by decide +kernel
theorem dX0_begin_76 : decode cX0_begin 76 = .ok (.putfield 63, 3) := by decide +kernel
theorem dX0_begin_79 : decode cX0_begin 79 = .ok (.aload_n 0, 1) := by decide +kernel
theorem dX0_begin_80 : decode cX0_begin 80 = .ok (.lconst 0, 1) := by decide +kernel
theorem dX0_begin_81 : decode cX0_begin 81 = .ok (.putfield 66, 3) := by decide +kernel
theorem dX0_begin_84 : decode cX0_begin 84 = .ok (.aload_n 0, 1) := by decide +kernel
theorem dX0_begin_85 : decode cX0_begin 85 = .ok (.lconst 0, 1) := by decide +kernel
theorem dX0_begin_86 : decode cX0_begin 86 = .ok (.putfield 69, 3) := by decide +kernel
theorem dX0_begin_89 : decode cX0_begin 89 = .ok (.return_, 1) := by decide +kernel
theorem dX0_head_0 : decode cX0_head 0 = .ok (.aload_n 0, 1) := by decide +kernel
theorem dX0_head_1 : decode cX0_head 1 = .ok (.getfield 31, 3) := by decide +kernel
theorem dX0_head_4 : decode cX0_head 4 = .ok (.ifCond .ne 8, 3) := by decide +kernel
theorem dX0_head_7 : decode cX0_head 7 = .ok (.bipush (-6), 2) := by decide +kernel
theorem dX0_head_9 : decode cX0_head 9 = .ok (.goto 9, 3) := by decide +kernel
theorem dX0_head_12 : decode cX0_head 12 = .ok (.aload_n 0, 1) := by decide +kernel
theorem dX0_head_13 : decode cX0_head 13 = .ok (.getfield 18, 3) := by decide +kernel
theorem dX0_head_16 : decode cX0_head 16 = .ok (.iconst 0, 1) := by decide +kernel
theorem dX0_head_17 : decode cX0_head 17 = .ok (.iaload, 1) := by decide +kernel
theorem dX0_head_18 : decode cX0_head 18 = .ok (.ireturn, 1) := by decide +kernel
theorem dX0_joinQueue_0 : decode cX0_joinQueue 0 = .ok (.aload_n 0, 1) := by decide +kernel
theorem dX0_joinQueue_1 : decode cX0_joinQueue 1 = .ok (.getfield 31, 3) := by decide +kernel
theorem dX0_joinQueue_4 : decode cX0_joinQueue 4 = .ok (.aload_n 0, 1) := by decide +kernel
theorem dX0_joinQueue_5 : decode cX0_joinQueue 5 = .ok (.getfield 18, 3) := by decide +kernel
theorem dX0_joinQueue_8 : decode cX0_joinQueue 8 = .ok (.arraylength, 1) := by decide +kernel
theorem dX0_joinQueue_9 : decode cX0_joinQueue 9 = .ok (.if_icmp .ge 23, 3) := by decide +kernel
theorem dX0_joinQueue_12 : decode cX0_joinQueue 12 = .ok (.aload_n 0, 1) := by decide +kernel
theorem dX0_joinQueue_13 : decode cX0_joinQueue 13 = .ok (.getfield 18, 3) := by decide +kernel
theorem dX0_joinQueue_16 : decode cX0_joinQueue 16 = .ok (.aload_n 0, 1) := by decide +kernel
theorem dX0_joinQueue_17 : decode cX0_joinQueue 17 = .ok (.getfield 31, 3) := by decide +kernel
theorem dX0_joinQueue_20 : decode cX0_joinQueue 20 = .ok (.iload_n 1, 1) := by decide +kernel
theorem dX0_joinQueue_21 : decode cX0_joinQueue 21 = .ok (.iastore, 1) := by decide +kernel
theorem dX0_joinQueue_22 : decode cX0_joinQueue 22 = .ok (.aload_n 0, 1) := by decide +kernel
theorem dX0_joinQueue_23 : decode cX0_joinQueue 23 = .ok (.dup, 1) := by decide +kernel
theorem dX0_joinQueue_24 : decode cX0_joinQueue 24 = .ok (.getfield 31, 3) := by decide +kernel
theorem dX0_joinQueue_27 : decode cX0_joinQueue 27 = .ok (.iconst 1, 1) := by decide +kernel
theorem dX0_joinQueue_28 : decode cX0_joinQueue 28 = .ok (.iadd, 1) := by decide +kernel
theorem dX0_joinQueue_29 : decode cX0_joinQueue 29 = .ok (.putfield 31, 3) := by decide +kernel
theorem dX0_joinQueue_32 : decode cX0_joinQueue 32 = .ok (.return_, 1) := by decide +kernel
theorem dX0_leaveQueue_0 : decode cX0_leaveQueue 0 = .ok (.iconst 0, 1) := by decide +kernel
theorem dX0_leaveQueue_1 : decode cX0_leaveQueue 1 = .ok (.istore_n 2, 1) := by decide +kernel
theorem dX0_leaveQueue_2 : decode cX0_leaveQueue 2 = .ok (.iconst 0, 1) := by decide +kernel
theorem dX0_leaveQueue_3 : decode cX0_leaveQueue 3 = .ok (.istore_n 3, 1) := by decide +kernel
theorem dX0_leaveQueue_4 : decode cX0_leaveQueue 4 = .ok (.iload_n 3, 1) := by decide +kernel
theorem dX0_leaveQueue_5 : decode cX0_leaveQueue 5 = .ok (.aload_n 0, 1) := by decide +kernel
theorem dX0_leaveQueue_6 : decode cX0_leaveQueue 6 = .ok (.getfield 31, 3) := by decide +kernel
theorem dX0_leaveQueue_9 : decode cX0_leaveQueue 9 = .ok (.if_icmp .ge 34, 3) := by decide +kernel
theorem dX0_leaveQueue_12 : decode cX0_leaveQueue 12 = .ok (.aload_n 0, 1) := by decide +kernel
theorem dX0_leaveQueue_13 : decode cX0_leaveQueue 13 = .ok (.getfield 18, 3) := by decide +kernel
theorem dX0_leaveQueue_16 : decode cX0_leaveQueue 16 = .ok (.iload_n 3, 1) := by decide +kernel
theorem dX0_leaveQueue_17 : decode cX0_leaveQueue 17 = .ok (.iaload, 1) := by decide +kernel
theorem dX0_leaveQueue_18 : decode cX0_leaveQueue 18 = .ok (.iload_n 1, 1) := by decide +kernel
theorem dX0_leaveQueue_19 : decode cX0_leaveQueue 19 = .ok (.if_icmp .eq 18, 3) := by decide +kernel
theorem dX0_leaveQueue_22 : decode cX0_leaveQueue 22 = .ok (.aload_n 0, 1) := by decide +kernel
theorem dX0_leaveQueue_23 : decode cX0_leaveQueue 23 = .ok (.getfield 18, 3) := by decide +kernel
theorem dX0_leaveQueue_26 : decode cX0_leaveQueue 26 = .ok (.iload_n 2, 1) := by decide +kernel
theorem dX0_leaveQueue_27 : decode cX0_leaveQueue 27 = .ok (.aload_n 0, 1) := by decide +kernel
theorem dX0_leaveQueue_28 : decode cX0_leaveQueue 28 = .ok (.getfield 18, 3) := by decide +kernel
theorem dX0_leaveQueue_31 : decode cX0_leaveQueue 31 = .ok (.iload_n 3, 1) := by decide +kernel
theorem dX0_leaveQueue_32 : decode cX0_leaveQueue 32 = .ok (.iaload, 1) := by decide +kernel
theorem dX0_leaveQueue_33 : decode cX0_leaveQueue 33 = .ok (.iastore, 1) := by decide +kernel
theorem dX0_leaveQueue_34 : decode cX0_leaveQueue 34 = .ok (.iinc 2 1, 3) := by decide +kernel
theorem dX0_leaveQueue_37 : decode cX0_leaveQueue 37 = .ok (.iinc 3 1, 3) := by decide +kernel
theorem dX0_leaveQueue_40 : decode cX0_leaveQueue 40 = .ok (.goto (-36), 3) := by decide +kernel
theorem dX0_leaveQueue_43 : decode cX0_leaveQueue 43 = .ok (.aload_n 0, 1) := by decide +kernel
theorem dX0_leaveQueue_44 : decode cX0_leaveQueue 44 = .ok (.iload_n 2, 1) := by decide +kernel
theorem dX0_leaveQueue_45 : decode cX0_leaveQueue 45 = .ok (.putfield 31, 3) := by decide +kernel
theorem dX0_leaveQueue_48 : decode cX0_leaveQueue 48 = .ok (.return_, 1) := by decide +kernel
theorem dX0_share_0 : decode cX0_share 0 = .ok (.aload_n 0, 1) := by decide +kernel
theorem dX0_share_1 : decode cX0_share 1 = .ok (.getfield 13, 3) := by decide +kernel
theorem dX0_share_4 : decode cX0_share 4 = .ok (.iconst 0, 1) := by decide +kernel
theorem dX0_share_5 : decode cX0_share 5 = .ok (.iaload, 1) := by decide +kernel
theorem dX0_share_6 : decode cX0_share 6 = .ok (.istore_n 2, 1) := by decide +kernel
theorem dX0_share_7 : decode cX0_share 7 = .ok (.iload_n 2, 1) := by decide +kernel
theorem dX0_share_8 : decode cX0_share 8 = .ok (.iconst 1, 1) := by decide +kernel
theorem dX0_share_9 : decode cX0_share 9 = .ok (.if_icmp .ge 7, 3) := by decide +kernel
theorem dX0_share_12 : decode cX0_share 12 = .ok (.lconst 0, 1) := by decide +kernel
theorem dX0_share_13 : decode cX0_share 13 = .ok (.goto 12, 3) := by decide +kernel
theorem dX0_share_16 : decode cX0_share 16 = .ok (.iload_n 1, 1) := by decide +kernel
theorem dX0_share_17 : decode cX0_share 17 = .ok (.i2l, 1) := by decide +kernel
theorem dX0_share_18 : decode cX0_share 18 = .ok (.ldc2_w 72, 3) := by decide +kernel
theorem dX0_share_21 : decode cX0_share 21 = .ok (.lmul, 1) := by decide +kernel
theorem dX0_share_22 : decode cX0_share 22 = .ok (.iload_n 2, 1) := by decide +kernel
theorem dX0_share_23 : decode cX0_share 23 = .ok (.i2l, 1) := by decide +kernel
theorem dX0_share_24 : decode cX0_share 24 = .ok (.ldiv, 1) := by decide +kernel
theorem dX0_share_25 : decode cX0_share 25 = .ok (.lreturn, 1) := by decide +kernel
theorem dX0_lag_0 : decode cX0_lag 0 = .ok (.aload_n 0, 1) := by decide +kernel
theorem dX0_lag_1 : decode cX0_lag 1 = .ok (.getfield 66, 3) := by decide +kernel
theorem dX0_lag_4 : decode cX0_lag 4 = .ok (.ldc2_w 72, 3) := by decide +kernel
theorem dX0_lag_7 : decode cX0_lag 7 = .ok (.aload_n 0, 1) := by decide +kernel
theorem dX0_lag_8 : decode cX0_lag 8 = .ok (.getfield 35, 3) := by decide +kernel
theorem dX0_lag_11 : decode cX0_lag 11 = .ok (.i2l, 1) := by decide +kernel
theorem dX0_lag_12 : decode cX0_lag 12 = .ok (.lmul, 1) := by decide +kernel
theorem dX0_lag_13 : decode cX0_lag 13 = .ok (.lsub, 1) := by decide +kernel
theorem dX0_lag_14 : decode cX0_lag 14 = .ok (.lreturn, 1) := by decide +kernel
theorem dX0_noteDelivery_0 : decode cX0_noteDelivery 0 = .ok (.aload_n 0, 1) := by decide +kernel
theorem dX0_noteDelivery_1 : decode cX0_noteDelivery 1 = .ok (.dup, 1) := by decide +kernel
theorem dX0_noteDelivery_2 : decode cX0_noteDelivery 2 = .ok (.getfield 38, 3) := by decide +kernel
theorem dX0_noteDelivery_5 : decode cX0_noteDelivery 5 = .ok (.iconst 1, 1) := by decide +kernel
theorem dX0_noteDelivery_6 : decode cX0_noteDelivery 6 = .ok (.iadd, 1) := by decide +kernel
theorem dX0_noteDelivery_7 : decode cX0_noteDelivery 7 = .ok (.putfield 38, 3) := by decide +kernel
theorem dX0_noteDelivery_10 : decode cX0_noteDelivery 10 = .ok (.aload_n 0, 1) := by decide +kernel
theorem dX0_noteDelivery_11 : decode cX0_noteDelivery 11 = .ok (.dup, 1) := by decide +kernel
theorem dX0_noteDelivery_12 : decode cX0_noteDelivery 12 = .ok (.getfield 50, 3) := by decide +kernel
theorem dX0_noteDelivery_15 : decode cX0_noteDelivery 15 = .ok (.iload_n 1, 1) := by decide +kernel
theorem dX0_noteDelivery_16 : decode cX0_noteDelivery 16 = .ok (.iadd, 1) := by decide +kernel
theorem dX0_noteDelivery_17 : decode cX0_noteDelivery 17 = .ok (.putfield 50, 3) := by decide +kernel
theorem dX0_noteDelivery_20 : decode cX0_noteDelivery 20 = .ok (.aload_n 0, 1) := by decide +kernel
theorem dX0_noteDelivery_21 : decode cX0_noteDelivery 21 = .ok (.aload_n 0, 1) := by decide +kernel
theorem dX0_noteDelivery_22 : decode cX0_noteDelivery 22 = .ok (.getfield 47, 3) := by decide +kernel
theorem dX0_noteDelivery_25 : decode cX0_noteDelivery 25 = .ok (.iload_n 1, 1) := by decide +kernel
theorem dX0_noteDelivery_26 : decode cX0_noteDelivery 26 = .ok (.invokestatic 74, 3) := by decide +kernel
theorem dX0_noteDelivery_29 : decode cX0_noteDelivery 29 = .ok (.putfield 47, 3) := by decide +kernel
theorem dX0_noteDelivery_32 : decode cX0_noteDelivery 32 = .ok (.iload_n 2, 1) := by decide +kernel
theorem dX0_noteDelivery_33 : decode cX0_noteDelivery 33 = .ok (.ifCond .eq 13, 3) := by decide +kernel
theorem dX0_noteDelivery_36 : decode cX0_noteDelivery 36 = .ok (.aload_n 0, 1) := by decide +kernel
theorem dX0_noteDelivery_37 : decode cX0_noteDelivery 37 = .ok (.dup, 1) := by decide +kernel
theorem dX0_noteDelivery_38 : decode cX0_noteDelivery 38 = .ok (.getfield 41, 3) := by decide +kernel
theorem dX0_noteDelivery_41 : decode cX0_noteDelivery 41 = .ok (.iconst 1, 1) := by decide +kernel
theorem dX0_noteDelivery_42 : decode cX0_noteDelivery 42 = .ok (.iadd, 1) := by decide +kernel
theorem dX0_noteDelivery_43 : decode cX0_noteDelivery 43 = .ok (.putfield 41, 3) := by decide +kernel
theorem dX0_noteDelivery_46 : decode cX0_noteDelivery 46 = .ok (.return_, 1) := by decide +kernel
theorem dX0_makeIdleTick_0 : decode cX0_makeIdleTick 0 = .ok (.aload_n 0, 1) := by decide +kernel
theorem dX0_makeIdleTick_1 : decode cX0_makeIdleTick 1 = .ok (.aload_n 0, 1) := by decide +kernel
theorem dX0_makeIdleTick_2 : decode cX0_makeIdleTick 2 = .ok (.getfield 31, 3) := by decide +kernel
theorem dX0_makeIdleTick_5 : decode cX0_makeIdleTick 5 = .ok (.ifCond .ne 12, 3) := by decide +kernel
theorem dX0_makeIdleTick_8 : decode cX0_makeIdleTick 8 = .ok (.aload_n 0, 1) := by decide +kernel
theorem dX0_makeIdleTick_9 : decode cX0_makeIdleTick 9 = .ok (.getfield 44, 3) := by decide +kernel
theorem dX0_makeIdleTick_12 : decode cX0_makeIdleTick 12 = .ok (.iconst 1, 1) := by decide +kernel
theorem dX0_makeIdleTick_13 : decode cX0_makeIdleTick 13 = .ok (.iadd, 1) := by decide +kernel
theorem dX0_makeIdleTick_14 : decode cX0_makeIdleTick 14 = .ok (.goto 4, 3) := by decide +kernel
theorem dX0_makeIdleTick_17 : decode cX0_makeIdleTick 17 = .ok (.iconst 0, 1) := by decide +kernel
theorem dX0_makeIdleTick_18 : decode cX0_makeIdleTick 18 = .ok (.putfield 44, 3) := by decide +kernel
theorem dX0_makeIdleTick_21 : decode cX0_makeIdleTick 21 = .ok (.aload_n 0, 1) := by decide +kernel
theorem dX0_makeIdleTick_22 : decode cX0_makeIdleTick 22 = .ok (.getfield 13, 3) := by decide +kernel
theorem dX0_makeIdleTick_25 : decode cX0_makeIdleTick 25 = .ok (.iconst 3, 1) := by decide +kernel
theorem dX0_makeIdleTick_26 : decode cX0_makeIdleTick 26 = .ok (.iaload, 1) := by decide +kernel
theorem dX0_makeIdleTick_27 : decode cX0_makeIdleTick 27 = .ok (.istore_n 3, 1) := by decide +kernel
theorem dX0_makeIdleTick_28 : decode cX0_makeIdleTick 28 = .ok (.iload_n 3, 1) := by decide +kernel
theorem dX0_makeIdleTick_29 : decode cX0_makeIdleTick 29 = .ok (.ifCond .le 30, 3) := by decide +kernel
theorem dX0_makeIdleTick_32 : decode cX0_makeIdleTick 32 = .ok (.aload_n 0, 1) := by decide +kernel
theorem dX0_makeIdleTick_33 : decode cX0_makeIdleTick 33 = .ok (.getfield 13, 3) := by decide +kernel
theorem dX0_makeIdleTick_36 : decode cX0_makeIdleTick 36 = .ok (.iconst 4, 1) := by decide +kernel
theorem dX0_makeIdleTick_37 : decode cX0_makeIdleTick 37 = .ok (.iaload, 1) := by decide +kernel
theorem dX0_makeIdleTick_38 : decode cX0_makeIdleTick 38 = .ok (.ifCond .eq 21, 3) := by decide +kernel
theorem dX0_makeIdleTick_41 : decode cX0_makeIdleTick 41 = .ok (.aload_n 0, 1) := by decide +kernel
theorem dX0_makeIdleTick_42 : decode cX0_makeIdleTick 42 = .ok (.getfield 44, 3) := by decide +kernel
theorem dX0_makeIdleTick_45 : decode cX0_makeIdleTick 45 = .ok (.iload_n 3, 1) := by decide +kernel
theorem dX0_makeIdleTick_46 : decode cX0_makeIdleTick 46 = .ok (.if_icmp .lt 13, 3) := by decide +kernel
theorem dX0_makeIdleTick_49 : decode cX0_makeIdleTick 49 = .ok (.aload_n 0, 1) := by decide +kernel
theorem dX0_makeIdleTick_50 : decode cX0_makeIdleTick 50 = .ok (.iconst 0, 1) := by decide +kernel
theorem dX0_makeIdleTick_51 : decode cX0_makeIdleTick 51 = .ok (.putfield 44, 3) := by decide +kernel
theorem dX0_makeIdleTick_54 : decode cX0_makeIdleTick 54 = .ok (.aload_n 0, 1) := by decide +kernel
theorem dX0_makeIdleTick_55 : decode cX0_makeIdleTick 55 = .ok (.lload_n 1, 1) := by decide +kernel
theorem dX0_makeIdleTick_56 : decode cX0_makeIdleTick 56 = .ok (.invokevirtual 80, 3) := by decide +kernel
theorem dX0_makeIdleTick_59 : decode cX0_makeIdleTick 59 = .ok (.return_, 1) := by decide +kernel
theorem dX0_forgive_0 : decode cX0_forgive 0 = .ok (.aload_n 0, 1) := by decide +kernel
theorem dX0_forgive_1 : decode cX0_forgive 1 = .ok (.getfield 56, 3) := by decide +kernel
theorem dX0_forgive_4 : decode cX0_forgive 4 = .ok (.lload_n 1, 1) := by decide +kernel
theorem dX0_forgive_5 : decode cX0_forgive 5 = .ok (.lcmp, 1) := by decide +kernel
theorem dX0_forgive_6 : decode cX0_forgive 6 = .ok (.ifCond .le 50, 3) := by decide +kernel
theorem dX0_forgive_9 : decode cX0_forgive 9 = .ok (.aload_n 0, 1) := by decide +kernel
theorem dX0_forgive_10 : decode cX0_forgive 10 = .ok (.getfield 13, 3) := by decide +kernel
theorem dX0_forgive_13 : decode cX0_forgive 13 = .ok (.iconst 4, 1) := by decide +kernel
theorem dX0_forgive_14 : decode cX0_forgive 14 = .ok (.iaload, 1) := by decide +kernel
theorem dX0_forgive_15 : decode cX0_forgive 15 = .ok (.iconst 2, 1) := by decide +kernel
theorem dX0_forgive_16 : decode cX0_forgive 16 = .ok (.if_icmp .ne 7, 3) := by decide +kernel
theorem dX0_forgive_19 : decode cX0_forgive 19 = .ok (.lload_n 1, 1) := by decide +kernel
theorem dX0_forgive_20 : decode cX0_forgive 20 = .ok (.goto 15, 3) := by decide +kernel
theorem dX0_forgive_23 : decode cX0_forgive 23 = .ok (.lload_n 1, 1) := by decide +kernel
theorem dX0_forgive_24 : decode cX0_forgive 24 = .ok (.aload_n 0, 1) := by decide +kernel
theorem dX0_forgive_25 : decode cX0_forgive 25 = .ok (.getfield 56, 3) := by decide +kernel
theorem dX0_forgive_28 : decode cX0_forgive 28 = .ok (.lload_n 1, 1) := by decide +kernel
theorem dX0_forgive_29 : decode cX0_forgive 29 = .ok (.lsub, 1) := by decide +kernel
theorem dX0_forgive_30 : decode cX0_forgive 30 = .ok (.ldc2_w 84, 3) := by decide +kernel
theorem dX0_forgive_33 : decode cX0_forgive 33 = .ok (.ldiv, 1) := by decide +kernel
theorem dX0_forgive_34 : decode cX0_forgive 34 = .ok (.ladd, 1) := by decide +kernel
theorem dX0_forgive_35 : decode cX0_forgive 35 = .ok (.lstore_n 3, 1) := by decide +kernel
theorem dX0_forgive_36 : decode cX0_forgive 36 = .ok (.aload_n 0, 1) := by decide +kernel
theorem dX0_forgive_37 : decode cX0_forgive 37 = .ok (.dup, 1) := by decide +kernel
theorem dX0_forgive_38 : decode cX0_forgive 38 = .ok (.getfield 60, 3) := by decide +kernel
theorem dX0_forgive_41 : decode cX0_forgive 41 = .ok (.aload_n 0, 1) := by decide +kernel
theorem dX0_forgive_42 : decode cX0_forgive 42 = .ok (.getfield 56, 3) := by decide +kernel
theorem dX0_forgive_45 : decode cX0_forgive 45 = .ok (.lload_n 3, 1) := by decide +kernel
theorem dX0_forgive_46 : decode cX0_forgive 46 = .ok (.lsub, 1) := by decide +kernel
theorem dX0_forgive_47 : decode cX0_forgive 47 = .ok (.ladd, 1) := by decide +kernel
theorem dX0_forgive_48 : decode cX0_forgive 48 = .ok (.putfield 60, 3) := by decide +kernel
theorem dX0_forgive_51 : decode cX0_forgive 51 = .ok (.aload_n 0, 1) := by decide +kernel
theorem dX0_forgive_52 : decode cX0_forgive 52 = .ok (.lload_n 3, 1) := by decide +kernel
theorem dX0_forgive_53 : decode cX0_forgive 53 = .ok (.putfield 56, 3) := by decide +kernel
theorem dX0_forgive_56 : decode cX0_forgive 56 = .ok (.return_, 1) := by decide +kernel
theorem dX0_loseFluid_0 : decode cX0_loseFluid 0 = .ok (.iload_n 1, 1) := by decide +kernel
theorem dX0_loseFluid_1 : decode cX0_loseFluid 1 = .ok (.iconst 1, 1) := by decide +kernel
theorem dX0_loseFluid_2 : decode cX0_loseFluid 2 = .ok (.if_icmp .ge 7, 3) := by decide +kernel
theorem dX0_loseFluid_5 : decode cX0_loseFluid 5 = .ok (.lconst 0, 1) := by decide +kernel
theorem dX0_loseFluid_6 : decode cX0_loseFluid 6 = .ok (.goto 17, 3) := by decide +kernel
theorem dX0_loseFluid_9 : decode cX0_loseFluid 9 = .ok (.ldc2_w 72, 3) := by decide +kernel
theorem dX0_loseFluid_12 : decode cX0_loseFluid 12 = .ok (.aload_n 0, 1) := by decide +kernel
theorem dX0_loseFluid_13 : decode cX0_loseFluid 13 = .ok (.getfield 13, 3) := by decide +kernel
theorem dX0_loseFluid_16 : decode cX0_loseFluid 16 = .ok (.iconst 0, 1) := by decide +kernel
theorem dX0_loseFluid_17 : decode cX0_loseFluid 17 = .ok (.iaload, 1) := by decide +kernel
theorem dX0_loseFluid_18 : decode cX0_loseFluid 18 = .ok (.i2l, 1) := by decide +kernel
theorem dX0_loseFluid_19 : decode cX0_loseFluid 19 = .ok (.lmul, 1) := by decide +kernel
theorem dX0_loseFluid_20 : decode cX0_loseFluid 20 = .ok (.iload_n 1, 1) := by decide +kernel
theorem dX0_loseFluid_21 : decode cX0_loseFluid 21 = .ok (.i2l, 1) := by decide +kernel
theorem dX0_loseFluid_22 : decode cX0_loseFluid 22 = .ok (.ldiv, 1) := by decide +kernel
theorem dX0_loseFluid_23 : decode cX0_loseFluid 23 = .ok (.lstore_n 2, 1) := by decide +kernel
theorem dX0_loseFluid_24 : decode cX0_loseFluid 24 = .ok (.aload_n 0, 1) := by decide +kernel
theorem dX0_loseFluid_25 : decode cX0_loseFluid 25 = .ok (.getfield 63, 3) := by decide +kernel
theorem dX0_loseFluid_28 : decode cX0_loseFluid 28 = .ok (.lload_n 2, 1) := by decide +kernel
theorem dX0_loseFluid_29 : decode cX0_loseFluid 29 = .ok (.invokestatic 86, 3) := by decide +kernel
theorem dX0_loseFluid_32 : decode cX0_loseFluid 32 = .ok (.lstore 4, 2) := by decide +kernel
theorem dX0_loseFluid_34 : decode cX0_loseFluid 34 = .ok (.aload_n 0, 1) := by decide +kernel
theorem dX0_loseFluid_35 : decode cX0_loseFluid 35 = .ok (.dup, 1) := by decide +kernel
theorem dX0_loseFluid_36 : decode cX0_loseFluid 36 = .ok (.getfield 63, 3) := by decide +kernel
theorem dX0_loseFluid_39 : decode cX0_loseFluid 39 = .ok (.lload 4, 2) := by decide +kernel
theorem dX0_loseFluid_41 : decode cX0_loseFluid 41 = .ok (.lsub, 1) := by decide +kernel
theorem dX0_loseFluid_42 : decode cX0_loseFluid 42 = .ok (.putfield 63, 3) := by decide +kernel
theorem dX0_loseFluid_45 : decode cX0_loseFluid 45 = .ok (.aload_n 0, 1) := by decide +kernel
theorem dX0_loseFluid_46 : decode cX0_loseFluid 46 = .ok (.dup, 1) := by decide +kernel
theorem dX0_loseFluid_47 : decode cX0_loseFluid 47 = .ok (.getfield 66, 3) := by decide +kernel
theorem dX0_loseFluid_50 : decode cX0_loseFluid 50 = .ok (.lload 4, 2) := by decide +kernel
theorem dX0_loseFluid_52 : decode cX0_loseFluid 52 = .ok (.ladd, 1) := by decide +kernel
theorem dX0_loseFluid_53 : decode cX0_loseFluid 53 = .ok (.putfield 66, 3) := by decide +kernel
theorem dX0_loseFluid_56 : decode cX0_loseFluid 56 = .ok (.aload_n 0, 1) := by decide +kernel
theorem dX0_loseFluid_57 : decode cX0_loseFluid 57 = .ok (.aload_n 0, 1) := by decide +kernel
theorem dX0_loseFluid_58 : decode cX0_loseFluid 58 = .ok (.getfield 69, 3) := by decide +kernel
theorem dX0_loseFluid_61 : decode cX0_loseFluid 61 = .ok (.aload_n 0, 1) := by decide +kernel
theorem dX0_loseFluid_62 : decode cX0_loseFluid 62 = .ok (.invokevirtual 90, 3) := by decide +kernel
theorem dX0_loseFluid_65 : decode cX0_loseFluid 65 = .ok (.invokestatic 94, 3) := by decide +kernel
theorem dX0_loseFluid_68 : decode cX0_loseFluid 68 = .ok (.putfield 69, 3) := by decide +kernel
theorem dX0_loseFluid_71 : decode cX0_loseFluid 71 = .ok (.return_, 1) := by decide +kernel
theorem dX0_copyFrom_0 : decode cX0_copyFrom 0 = .ok (.aload_n 1, 1) := by decide +kernel
theorem dX0_copyFrom_1 : decode cX0_copyFrom 1 = .ok (.getfield 13, 3) := by decide +kernel
theorem dX0_copyFrom_4 : decode cX0_copyFrom 4 = .ok (.iconst 0, 1) := by decide +kernel
theorem dX0_copyFrom_5 : decode cX0_copyFrom 5 = .ok (.aload_n 0, 1) := by decide +kernel
theorem dX0_copyFrom_6 : decode cX0_copyFrom 6 = .ok (.getfield 13, 3) := by decide +kernel
theorem dX0_copyFrom_9 : decode cX0_copyFrom 9 = .ok (.iconst 0, 1) := by decide +kernel
theorem dX0_copyFrom_10 : decode cX0_copyFrom 10 = .ok (.aload_n 0, 1) := by decide +kernel
theorem dX0_copyFrom_11 : decode cX0_copyFrom 11 = .ok (.getfield 13, 3) := by decide +kernel
theorem dX0_copyFrom_14 : decode cX0_copyFrom 14 = .ok (.arraylength, 1) := by decide +kernel
theorem dX0_copyFrom_15 : decode cX0_copyFrom 15 = .ok (.invokestatic 25, 3) := by decide +kernel
theorem dX0_copyFrom_18 : decode cX0_copyFrom 18 = .ok (.aload_n 1, 1) := by decide +kernel
theorem dX0_copyFrom_19 : decode cX0_copyFrom 19 = .ok (.getfield 18, 3) := by decide +kernel
theorem dX0_copyFrom_22 : decode cX0_copyFrom 22 = .ok (.iconst 0, 1) := by decide +kernel
theorem dX0_copyFrom_23 : decode cX0_copyFrom 23 = .ok (.aload_n 0, 1) := by decide +kernel
theorem dX0_copyFrom_24 : decode cX0_copyFrom 24 = .ok (.getfield 18, 3) := by decide +kernel
theorem dX0_copyFrom_27 : decode cX0_copyFrom 27 = .ok (.iconst 0, 1) := by decide +kernel
theorem dX0_copyFrom_28 : decode cX0_copyFrom 28 = .ok (.aload_n 0, 1) := by decide +kernel
theorem dX0_copyFrom_29 : decode cX0_copyFrom 29 = .ok (.getfield 18, 3) := by decide +kernel
theorem dX0_copyFrom_32 : decode cX0_copyFrom 32 = .ok (.arraylength, 1) := by decide +kernel
theorem dX0_copyFrom_33 : decode cX0_copyFrom 33 = .ok (.invokestatic 25, 3) := by decide +kernel
theorem dX0_copyFrom_36 : decode cX0_copyFrom 36 = .ok (.aload_n 0, 1) := by decide +kernel
theorem dX0_copyFrom_37 : decode cX0_copyFrom 37 = .ok (.aload_n 1, 1) := by decide +kernel
theorem dX0_copyFrom_38 : decode cX0_copyFrom 38 = .ok (.getfield 31, 3) := by decide +kernel
theorem dX0_copyFrom_41 : decode cX0_copyFrom 41 = .ok (.putfield 31, 3) := by decide +kernel
theorem dX0_copyFrom_44 : decode cX0_copyFrom 44 = .ok (.aload_n 0, 1) := by decide +kernel
theorem dX0_copyFrom_45 : decode cX0_copyFrom 45 = .ok (.aload_n 1, 1) := by decide +kernel
theorem dX0_copyFrom_46 : decode cX0_copyFrom 46 = .ok (.getfield 35, 3) := by decide +kernel
theorem dX0_copyFrom_49 : decode cX0_copyFrom 49 = .ok (.putfield 35, 3) := by decide +kernel
theorem dX0_copyFrom_52 : decode cX0_copyFrom 52 = .ok (.aload_n 0, 1) := by decide +kernel
theorem dX0_copyFrom_53 : decode cX0_copyFrom 53 = .ok (.aload_n 1, 1) := by decide +kernel
theorem dX0_copyFrom_54 : decode cX0_copyFrom 54 = .ok (.getfield 38, 3) := by decide +kernel
theorem dX0_copyFrom_57 : decode cX0_copyFrom 57 = .ok (.putfield 38, 3) := by decide +kernel
theorem dX0_copyFrom_60 : decode cX0_copyFrom 60 = .ok (.aload_n 0, 1) := by decide +kernel
theorem dX0_copyFrom_61 : decode cX0_copyFrom 61 = .ok (.aload_n 1, 1) := by decide +kernel
theorem dX0_copyFrom_62 : decode cX0_copyFrom 62 = .ok (.getfield 41, 3) := by decide +kernel
theorem dX0_copyFrom_65 : decode cX0_copyFrom 65 = .ok (.putfield 41, 3) := by decide +kernel
theorem dX0_copyFrom_68 : decode cX0_copyFrom 68 = .ok (.aload_n 0, 1) := by decide +kernel
theorem dX0_copyFrom_69 : decode cX0_copyFrom 69 = .ok (.aload_n 1, 1) := by decide +kernel
theorem dX0_copyFrom_70 : decode cX0_copyFrom 70 = .ok (.getfield 44, 3) := by decide +kernel
theorem dX0_copyFrom_73 : decode cX0_copyFrom 73 = .ok (.putfield 44, 3) := by decide +kernel
theorem dX0_copyFrom_76 : decode cX0_copyFrom 76 = .ok (.aload_n 0, 1) := by decide +kernel
theorem dX0_copyFrom_77 : decode cX0_copyFrom 77 = .ok (.aload_n 1, 1) := by decide +kernel
theorem dX0_copyFrom_78 : decode cX0_copyFrom 78 = .ok (.getfield 47, 3) := by decide +kernel
theorem dX0_copyFrom_81 : decode cX0_copyFrom 81 = .ok (.putfield 47, 3) := by decide +kernel
theorem dX0_copyFrom_84 : decode cX0_copyFrom 84 = .ok (.aload_n 0, 1) := by decide +kernel
theorem dX0_copyFrom_85 : decode cX0_copyFrom 85 = .ok (.aload_n 1, 1) := by decide +kernel
theorem dX0_copyFrom_86 : decode cX0_copyFrom 86 = .ok (.getfield 50, 3) := by decide +kernel
theorem dX0_copyFrom_89 : decode cX0_copyFrom 89 = .ok (.putfield 50, 3) := by decide +kernel
theorem dX0_copyFrom_92 : decode cX0_copyFrom 92 = .ok (.aload_n 0, 1) := by decide +kernel
theorem dX0_copyFrom_93 : decode cX0_copyFrom 93 = .ok (.aload_n 1, 1) := by decide +kernel
theorem dX0_copyFrom_94 : decode cX0_copyFrom 94 = .ok (.getfield 53, 3) := by decide +kernel
theorem dX0_copyFrom_97 : decode cX0_copyFrom 97 = .ok (.putfield 53, 3) := by decide +kernel
theorem dX0_copyFrom_100 : decode cX0_copyFrom 100 = .ok (.aload_n 0, 1) := by decide +kernel
theorem dX0_copyFrom_101 : decode cX0_copyFrom 101 = .ok (.aload_n 1, 1) := by decide +kernel
theorem dX0_copyFrom_102 : decode cX0_copyFrom 102 = .ok (.getfield 56, 3) := by decide +kernel
theorem dX0_copyFrom_105 : decode cX0_copyFrom 105 = .ok (.putfield 56, 3) := by decide +kernel
theorem dX0_copyFrom_108 : decode cX0_copyFrom 108 = .ok (.aload_n 0, 1) := by decide +kernel
theorem dX0_copyFrom_109 : decode cX0_copyFrom 109 = .ok (.aload_n 1, 1) := by decide +kernel
theorem dX0_copyFrom_110 : decode cX0_copyFrom 110 = .ok (.getfield 60, 3) := by decide +kernel
theorem dX0_copyFrom_113 : decode cX0_copyFrom 113 = .ok (.putfield 60, 3) := by decide +kernel
theorem dX0_copyFrom_116 : decode cX0_copyFrom 116 = .ok (.aload_n 0, 1) := by decide +kernel
theorem dX0_copyFrom_117 : decode cX0_copyFrom 117 = .ok (.aload_n 1, 1) := by decide +kernel
theorem dX0_copyFrom_118 : decode cX0_copyFrom 118 = .ok (.getfield 63, 3) := by decide +kernel
theorem dX0_copyFrom_121 : decode cX0_copyFrom 121 = .ok (.putfield 63, 3) := by decide +kernel
theorem dX0_copyFrom_124 : decode cX0_copyFrom 124 = .ok (.aload_n 0, 1) := by decide +kernel
theorem dX0_copyFrom_125 : decode cX0_copyFrom 125 = .ok (.aload_n 1, 1) := by decide +kernel
theorem dX0_copyFrom_126 : decode cX0_copyFrom 126 = .ok (.getfield 66, 3) := by decide +kernel
theorem dX0_copyFrom_129 : decode cX0_copyFrom 129 = .ok (.putfield 66, 3) := by decide +kernel
theorem dX0_copyFrom_132 : decode cX0_copyFrom 132 = .ok (.aload_n 0, 1) := by decide +kernel
theorem dX0_copyFrom_133 : decode cX0_copyFrom 133 = .ok (.aload_n 1, 1) := by decide +kernel
theorem dX0_copyFrom_134 : decode cX0_copyFrom 134 = .ok (.getfield 69, 3) := by decide +kernel
theorem dX0_copyFrom_137 : decode cX0_copyFrom 137 = .ok (.putfield 69, 3) := by decide +kernel
theorem dX0_copyFrom_140 : decode cX0_copyFrom 140 = .ok (.return_, 1) := by decide +kernel
theorem dX1_init_0 : decode cX1_init 0 = .ok (.aload_n 0, 1) := by decide +kernel
theorem dX1_init_1 : decode cX1_init 1 = .ok (.invokespecial 3, 3) := by decide +kernel
theorem dX1_init_4 : decode cX1_init 4 = .ok (.return_, 1) := by decide +kernel
theorem dX1_begin_0 : decode cX1_begin 0 = .ok (.aload_n 0, 1) := by decide +kernel
theorem dX1_begin_1 : decode cX1_begin 1 = .ok (.iload_n 1, 1) := by decide +kernel
theorem dX1_begin_2 : decode cX1_begin 2 = .ok (.putfield 9, 3) := by decide +kernel
theorem dX1_begin_5 : decode cX1_begin 5 = .ok (.aload_n 0, 1) := by decide +kernel
theorem dX1_begin_6 : decode cX1_begin 6 = .ok (.iload_n 2, 1) := by decide +kernel
theorem dX1_begin_7 : decode cX1_begin 7 = .ok (.putfield 15, 3) := by decide +kernel
theorem dX1_begin_10 : decode cX1_begin 10 = .ok (.aload_n 0, 1) := by decide +kernel
theorem dX1_begin_11 : decode cX1_begin 11 = .ok (.iload_n 3, 1) := by decide +kernel
theorem dX1_begin_12 : decode cX1_begin 12 = .ok (.putfield 18, 3) := by decide +kernel
theorem dX1_begin_15 : decode cX1_begin 15 = .ok (.aload_n 0, 1) := by decide +kernel
theorem dX1_begin_16 : decode cX1_begin 16 = .ok (.iload 4, 2) := by decide +kernel
theorem dX1_begin_18 : decode cX1_begin 18 = .ok (.putfield 21, 3) := by decide +kernel
theorem dX1_begin_21 : decode cX1_begin 21 = .ok (.aload_n 0, 1) := by decide +kernel
theorem dX1_begin_22 : decode cX1_begin 22 = .ok (.iconst 0, 1) := by decide +kernel
theorem dX1_begin_23 : decode cX1_begin 23 = .ok (.putfield 24, 3) := by decide +kernel
theorem dX1_begin_26 : decode cX1_begin 26 = .ok (.aload_n 0, 1) := by decide +kernel
theorem dX1_begin_27 : decode cX1_begin 27 = .ok (.iconst 0, 1) := by decide +kernel
theorem dX1_begin_28 : decode cX1_begin 28 = .ok (.putfield 27, 3) := by decide +kernel
theorem dX1_begin_31 : decode cX1_begin 31 = .ok (.aload_n 0, 1) := by decide +kernel
theorem dX1_begin_32 : decode cX1_begin 32 = .ok (.iconst 0, 1) := by decide +kernel
theorem dX1_begin_33 : decode cX1_begin 33 = .ok (.putfield 30, 3) := by decide +kernel
theorem dX1_begin_36 : decode cX1_begin 36 = .ok (.aload_n 0, 1) := by decide +kernel
theorem dX1_begin_37 : decode cX1_begin 37 = .ok (.iconst 0, 1) := by decide +kernel
theorem dX1_begin_38 : decode cX1_begin 38 = .ok (.putfield 33, 3) := by decide +kernel
theorem dX1_begin_41 : decode cX1_begin 41 = .ok (.aload_n 0, 1) := by decide +kernel
theorem dX1_begin_42 : decode cX1_begin 42 = .ok (.bipush (-6), 2) := by decide +kernel
theorem dX1_begin_44 : decode cX1_begin 44 = .ok (.putfield 36, 3) := by decide +kernel
theorem dX1_begin_47 : decode cX1_begin 47 = .ok (.aload_n 0, 1) := by decide +kernel
theorem dX1_begin_48 : decode cX1_begin 48 = .ok (.bipush (-6), 2) := by decide +kernel
theorem dX1_begin_50 : decode cX1_begin 50 = .ok (.putfield 39, 3) := by decide +kernel
theorem dX1_begin_53 : decode cX1_begin 53 = .ok (.aload_n 0, 1) := by decide +kernel
theorem dX1_begin_54 : decode cX1_begin 54 = .ok (.lload 5, 2) := by decide +kernel
theorem dX1_begin_56 : decode cX1_begin 56 = .ok (.putfield 42, 3) := by decide +kernel
theorem dX1_begin_59 : decode cX1_begin 59 = .ok (.return_, 1) := by decide +kernel
theorem dX1_isQueued_0 : decode cX1_isQueued 0 = .ok (.aload_n 0, 1) := by decide +kernel
theorem dX1_isQueued_1 : decode cX1_isQueued 1 = .ok (.getfield 24, 3) := by decide +kernel
theorem dX1_isQueued_4 : decode cX1_isQueued 4 = .ok (.ifCond .eq 11, 3) := by decide +kernel
theorem dX1_isQueued_7 : decode cX1_isQueued 7 = .ok (.aload_n 0, 1) := by decide +kernel
theorem dX1_isQueued_8 : decode cX1_isQueued 8 = .ok (.getfield 24, 3) := by decide +kernel
theorem dX1_isQueued_11 : decode cX1_isQueued 11 = .ok (.iconst 1, 1) := by decide +kernel
theorem dX1_isQueued_12 : decode cX1_isQueued 12 = .ok (.if_icmp .ne 7, 3) := by decide +kernel
theorem dX1_isQueued_15 : decode cX1_isQueued 15 = .ok (.iconst 1, 1) := by decide +kernel
theorem dX1_isQueued_16 : decode cX1_isQueued 16 = .ok (.goto 4, 3) := by decide +kernel
theorem dX1_isQueued_19 : decode cX1_isQueued 19 = .ok (.iconst 0, 1) := by decide +kernel
theorem dX1_isQueued_20 : decode cX1_isQueued 20 = .ok (.ireturn, 1) := by decide +kernel
theorem dX1_unsent_0 : decode cX1_unsent 0 = .ok (.aload_n 0, 1) := by decide +kernel
theorem dX1_unsent_1 : decode cX1_unsent 1 = .ok (.getfield 15, 3) := by decide +kernel
theorem dX1_unsent_4 : decode cX1_unsent 4 = .ok (.aload_n 0, 1) := by decide +kernel
theorem dX1_unsent_5 : decode cX1_unsent 5 = .ok (.getfield 27, 3) := by decide +kernel
theorem dX1_unsent_8 : decode cX1_unsent 8 = .ok (.isub, 1) := by decide +kernel
theorem dX1_unsent_9 : decode cX1_unsent 9 = .ok (.ireturn, 1) := by decide +kernel
theorem dX1_delay_0 : decode cX1_delay 0 = .ok (.aload_n 0, 1) := by decide +kernel
theorem dX1_delay_1 : decode cX1_delay 1 = .ok (.getfield 39, 3) := by decide +kernel
theorem dX1_delay_4 : decode cX1_delay 4 = .ok (.aload_n 0, 1) := by decide +kernel
theorem dX1_delay_5 : decode cX1_delay 5 = .ok (.getfield 18, 3) := by decide +kernel
theorem dX1_delay_8 : decode cX1_delay 8 = .ok (.isub, 1) := by decide +kernel
theorem dX1_delay_9 : decode cX1_delay 9 = .ok (.ireturn, 1) := by decide +kernel
theorem dX1_isLate_0 : decode cX1_isLate 0 = .ok (.aload_n 0, 1) := by decide +kernel
theorem dX1_isLate_1 : decode cX1_isLate 1 = .ok (.getfield 21, 3) := by decide +kernel
theorem dX1_isLate_4 : decode cX1_isLate 4 = .ok (.bipush (-6), 2) := by decide +kernel
theorem dX1_isLate_6 : decode cX1_isLate 6 = .ok (.if_icmp .eq 18, 3) := by decide +kernel
theorem dX1_isLate_9 : decode cX1_isLate 9 = .ok (.aload_n 0, 1) := by decide +kernel
theorem dX1_isLate_10 : decode cX1_isLate 10 = .ok (.getfield 39, 3) := by decide +kernel
theorem dX1_isLate_13 : decode cX1_isLate 13 = .ok (.aload_n 0, 1) := by decide +kernel
theorem dX1_isLate_14 : decode cX1_isLate 14 = .ok (.getfield 21, 3) := by decide +kernel
theorem dX1_isLate_17 : decode cX1_isLate 17 = .ok (.if_icmp .le 7, 3) := by decide +kernel
theorem dX1_isLate_20 : decode cX1_isLate 20 = .ok (.iconst 1, 1) := by decide +kernel
theorem dX1_isLate_21 : decode cX1_isLate 21 = .ok (.goto 4, 3) := by decide +kernel
theorem dX1_isLate_24 : decode cX1_isLate 24 = .ok (.iconst 0, 1) := by decide +kernel
theorem dX1_isLate_25 : decode cX1_isLate 25 = .ok (.ireturn, 1) := by decide +kernel
theorem dX1_copyFrom_0 : decode cX1_copyFrom 0 = .ok (.aload_n 0, 1) := by decide +kernel
theorem dX1_copyFrom_1 : decode cX1_copyFrom 1 = .ok (.aload_n 1, 1) := by decide +kernel
theorem dX1_copyFrom_2 : decode cX1_copyFrom 2 = .ok (.getfield 9, 3) := by decide +kernel
theorem dX1_copyFrom_5 : decode cX1_copyFrom 5 = .ok (.putfield 9, 3) := by decide +kernel
theorem dX1_copyFrom_8 : decode cX1_copyFrom 8 = .ok (.aload_n 0, 1) := by decide +kernel
theorem dX1_copyFrom_9 : decode cX1_copyFrom 9 = .ok (.aload_n 1, 1) := by decide +kernel
theorem dX1_copyFrom_10 : decode cX1_copyFrom 10 = .ok (.getfield 15, 3) := by decide +kernel
theorem dX1_copyFrom_13 : decode cX1_copyFrom 13 = .ok (.putfield 15, 3) := by decide +kernel
theorem dX1_copyFrom_16 : decode cX1_copyFrom 16 = .ok (.aload_n 0, 1) := by decide +kernel
theorem dX1_copyFrom_17 : decode cX1_copyFrom 17 = .ok (.aload_n 1, 1) := by decide +kernel
theorem dX1_copyFrom_18 : decode cX1_copyFrom 18 = .ok (.getfield 18, 3) := by decide +kernel
theorem dX1_copyFrom_21 : decode cX1_copyFrom 21 = .ok (.putfield 18, 3) := by decide +kernel
theorem dX1_copyFrom_24 : decode cX1_copyFrom 24 = .ok (.aload_n 0, 1) := by decide +kernel
theorem dX1_copyFrom_25 : decode cX1_copyFrom 25 = .ok (.aload_n 1, 1) := by decide +kernel
theorem dX1_copyFrom_26 : decode cX1_copyFrom 26 = .ok (.getfield 21, 3) := by decide +kernel
theorem dX1_copyFrom_29 : decode cX1_copyFrom 29 = .ok (.putfield 21, 3) := by decide +kernel
theorem dX1_copyFrom_32 : decode cX1_copyFrom 32 = .ok (.aload_n 0, 1) := by decide +kernel
theorem dX1_copyFrom_33 : decode cX1_copyFrom 33 = .ok (.aload_n 1, 1) := by decide +kernel
theorem dX1_copyFrom_34 : decode cX1_copyFrom 34 = .ok (.getfield 24, 3) := by decide +kernel
theorem dX1_copyFrom_37 : decode cX1_copyFrom 37 = .ok (.putfield 24, 3) := by decide +kernel
theorem dX1_copyFrom_40 : decode cX1_copyFrom 40 = .ok (.aload_n 0, 1) := by decide +kernel
theorem dX1_copyFrom_41 : decode cX1_copyFrom 41 = .ok (.aload_n 1, 1) := by decide +kernel
theorem dX1_copyFrom_42 : decode cX1_copyFrom 42 = .ok (.getfield 27, 3) := by decide +kernel
theorem dX1_copyFrom_45 : decode cX1_copyFrom 45 = .ok (.putfield 27, 3) := by decide +kernel
theorem dX1_copyFrom_48 : decode cX1_copyFrom 48 = .ok (.aload_n 0, 1) := by decide +kernel
theorem dX1_copyFrom_49 : decode cX1_copyFrom 49 = .ok (.aload_n 1, 1) := by decide +kernel
theorem dX1_copyFrom_50 : decode cX1_copyFrom 50 = .ok (.getfield 30, 3) := by decide +kernel
theorem dX1_copyFrom_53 : decode cX1_copyFrom 53 = .ok (.putfield 30, 3) := by decide +kernel
theorem dX1_copyFrom_56 : decode cX1_copyFrom 56 = .ok (.aload_n 0, 1) := by decide +kernel
theorem dX1_copyFrom_57 : decode cX1_copyFrom 57 = .ok (.aload_n 1, 1) := by decide +kernel
theorem dX1_copyFrom_58 : decode cX1_copyFrom 58 = .ok (.getfield 33, 3) := by decide +kernel
theorem dX1_copyFrom_61 : decode cX1_copyFrom 61 = .ok (.putfield 33, 3) := by decide +kernel
theorem dX1_copyFrom_64 : decode cX1_copyFrom 64 = .ok (.aload_n 0, 1) := by decide +kernel
theorem dX1_copyFrom_65 : decode cX1_copyFrom 65 = .ok (.aload_n 1, 1) := by decide +kernel
theorem dX1_copyFrom_66 : decode cX1_copyFrom 66 = .ok (.getfield 36, 3) := by decide +kernel
theorem dX1_copyFrom_69 : decode cX1_copyFrom 69 = .ok (.putfield 36, 3) := by decide +kernel
theorem dX1_copyFrom_72 : decode cX1_copyFrom 72 = .ok (.aload_n 0, 1) := by decide +kernel
theorem dX1_copyFrom_73 : decode cX1_copyFrom 73 = .ok (.aload_n 1, 1) := by decide +kernel
theorem dX1_copyFrom_74 : decode cX1_copyFrom 74 = .ok (.getfield 39, 3) := by decide +kernel
theorem dX1_copyFrom_77 : decode cX1_copyFrom 77 = .ok (.putfield 39, 3) := by decide +kernel
theorem dX1_copyFrom_80 : decode cX1_copyFrom 80 = .ok (.aload_n 0, 1) := by decide +kernel
theorem dX1_copyFrom_81 : decode cX1_copyFrom 81 = .ok (.aload_n 1, 1) := by decide +kernel
theorem dX1_copyFrom_82 : decode cX1_copyFrom 82 = .ok (.getfield 42, 3) := by decide +kernel
theorem dX1_copyFrom_85 : decode cX1_copyFrom 85 = .ok (.putfield 42, 3) := by decide +kernel
theorem dX1_copyFrom_88 : decode cX1_copyFrom 88 = .ok (.return_, 1) := by decide +kernel
theorem dX2_init_0 : decode cX2_init 0 = .ok (.aload_n 0, 1) := by decide +kernel
theorem dX2_init_1 : decode cX2_init 1 = .ok (.invokespecial 3, 3) := by decide +kernel
theorem dX2_init_4 : decode cX2_init 4 = .ok (.aload_n 0, 1) := by decide +kernel
theorem dX2_init_5 : decode cX2_init 5 = .ok (.bipush 80, 2) := by decide +kernel
theorem dX2_init_7 : decode cX2_init 7 = .ok (.newarray .char, 2) := by decide +kernel
theorem dX2_init_9 : decode cX2_init 9 = .ok (.putfield 9, 3) := by decide +kernel
theorem dX2_init_12 : decode cX2_init 12 = .ok (.return_, 1) := by decide +kernel
theorem dX2_append_0 : decode cX2_append 0 = .ok (.iload_n 3, 1) := by decide +kernel
theorem dX2_append_1 : decode cX2_append 1 = .ok (.iconst 1, 1) := by decide +kernel
theorem dX2_append_2 : decode cX2_append 2 = .ok (.isub, 1) := by decide +kernel
theorem dX2_append_3 : decode cX2_append 3 = .ok (.istore 4, 2) := by decide +kernel
theorem dX2_append_5 : decode cX2_append 5 = .ok (.iload 4, 2) := by decide +kernel
theorem dX2_append_7 : decode cX2_append 7 = .ok (.ifCond .lt 53, 3) := by decide +kernel
theorem dX2_append_10 : decode cX2_append 10 = .ok (.aload_n 0, 1) := by decide +kernel
theorem dX2_append_11 : decode cX2_append 11 = .ok (.getfield 15, 3) := by decide +kernel
theorem dX2_append_14 : decode cX2_append 14 = .ok (.aload_n 0, 1) := by decide +kernel
theorem dX2_append_15 : decode cX2_append 15 = .ok (.getfield 9, 3) := by decide +kernel
theorem dX2_append_18 : decode cX2_append 18 = .ok (.arraylength, 1) := by decide +kernel
theorem dX2_append_19 : decode cX2_append 19 = .ok (.if_icmp .ge 35, 3) := by decide +kernel
theorem dX2_append_22 : decode cX2_append 22 = .ok (.aload_n 0, 1) := by decide +kernel
theorem dX2_append_23 : decode cX2_append 23 = .ok (.getfield 9, 3) := by decide +kernel
theorem dX2_append_26 : decode cX2_append 26 = .ok (.aload_n 0, 1) := by decide +kernel
theorem dX2_append_27 : decode cX2_append 27 = .ok (.getfield 15, 3) := by decide +kernel
theorem dX2_append_30 : decode cX2_append 30 = .ok (.lload_n 1, 1) := by decide +kernel
theorem dX2_append_31 : decode cX2_append 31 = .ok (.bipush 8, 2) := by decide +kernel
theorem dX2_append_33 : decode cX2_append 33 = .ok (.iload 4, 2) := by decide +kernel
theorem dX2_append_35 : decode cX2_append 35 = .ok (.imul, 1) := by decide +kernel
theorem dX2_append_36 : decode cX2_append 36 = .ok (.lushr, 1) := by decide +kernel
theorem dX2_append_37 : decode cX2_append 37 = .ok (.ldc2_w 19, 3) := by decide +kernel
theorem dX2_append_40 : decode cX2_append 40 = .ok (.land, 1) := by decide +kernel
theorem dX2_append_41 : decode cX2_append 41 = .ok (.l2i, 1) := by decide +kernel
theorem dX2_append_42 : decode cX2_append 42 = .ok (.i2c, 1) := by decide +kernel
theorem dX2_append_43 : decode cX2_append 43 = .ok (.castore, 1) := by decide +kernel
theorem dX2_append_44 : decode cX2_append 44 = .ok (.aload_n 0, 1) := by decide +kernel
theorem dX2_append_45 : decode cX2_append 45 = .ok (.dup, 1) := by decide +kernel
theorem dX2_append_46 : decode cX2_append 46 = .ok (.getfield 15, 3) := by decide +kernel
theorem dX2_append_49 : decode cX2_append 49 = .ok (.iconst 1, 1) := by decide +kernel
theorem dX2_append_50 : decode cX2_append 50 = .ok (.iadd, 1) := by decide +kernel
theorem dX2_append_51 : decode cX2_append 51 = .ok (.putfield 15, 3) := by decide +kernel
theorem dX2_append_54 : decode cX2_append 54 = .ok (.iinc 4 (-1), 3) := by decide +kernel
theorem dX2_append_57 : decode cX2_append 57 = .ok (.goto (-52), 3) := by decide +kernel
theorem dX2_append_60 : decode cX2_append 60 = .ok (.return_, 1) := by decide +kernel
theorem dX2_findFault_0 : decode cX2_findFault 0 = .ok (.aload_n 0, 1) := by decide +kernel
theorem dX2_findFault_1 : decode cX2_findFault 1 = .ok (.iconst 0, 1) := by decide +kernel
theorem dX2_findFault_2 : decode cX2_findFault 2 = .ok (.putfield 21, 3) := by decide +kernel
theorem dX2_findFault_5 : decode cX2_findFault 5 = .ok (.iconst 0, 1) := by decide +kernel
theorem dX2_findFault_6 : decode cX2_findFault 6 = .ok (.istore_n 1, 1) := by decide +kernel
theorem dX2_findFault_7 : decode cX2_findFault 7 = .ok (.iload_n 1, 1) := by decide +kernel
theorem dX2_findFault_8 : decode cX2_findFault 8 = .ok (.bipush 80, 2) := by decide +kernel
theorem dX2_findFault_10 : decode cX2_findFault 10 = .ok (.if_icmp .ge 75, 3) := by decide +kernel
theorem dX2_findFault_13 : decode cX2_findFault 13 = .ok (.aload_n 0, 1) := by decide +kernel
theorem dX2_findFault_14 : decode cX2_findFault 14 = .ok (.getfield 21, 3) := by decide +kernel
theorem dX2_findFault_17 : decode cX2_findFault 17 = .ok (.aload_n 0, 1) := by decide +kernel
theorem dX2_findFault_18 : decode cX2_findFault 18 = .ok (.getfield 15, 3) := by decide +kernel
theorem dX2_findFault_21 : decode cX2_findFault 21 = .ok (.if_icmp .ge 64, 3) := by decide +kernel
theorem dX2_findFault_24 : decode cX2_findFault 24 = .ok (.aload_n 0, 1) := by decide +kernel
theorem dX2_findFault_25 : decode cX2_findFault 25 = .ok (.invokevirtual 24, 3) := by decide +kernel
theorem dX2_findFault_28 : decode cX2_findFault 28 = .ok (.ifCond .ne 8, 3) := by decide +kernel
theorem dX2_findFault_31 : decode cX2_findFault 31 = .ok (.aload_n 0, 1) := by decide +kernel
theorem dX2_findFault_32 : decode cX2_findFault 32 = .ok (.getfield 21, 3) := by decide +kernel
theorem dX2_findFault_35 : decode cX2_findFault 35 = .ok (.ireturn, 1) := by decide +kernel
theorem dX2_findFault_36 : decode cX2_findFault 36 = .ok (.aload_n 0, 1) := by decide +kernel
theorem dX2_findFault_37 : decode cX2_findFault 37 = .ok (.getfield 21, 3) := by decide +kernel
theorem dX2_findFault_40 : decode cX2_findFault 40 = .ok (.aload_n 0, 1) := by decide +kernel
theorem dX2_findFault_41 : decode cX2_findFault 41 = .ok (.getfield 15, 3) := by decide +kernel
theorem dX2_findFault_44 : decode cX2_findFault 44 = .ok (.if_icmp .ne 6, 3) := by decide +kernel
theorem dX2_findFault_47 : decode cX2_findFault 47 = .ok (.bipush (-6), 2) := by decide +kernel
theorem dX2_findFault_49 : decode cX2_findFault 49 = .ok (.ireturn, 1) := by decide +kernel
theorem dX2_findFault_50 : decode cX2_findFault 50 = .ok (.aload_n 0, 1) := by decide +kernel
theorem dX2_findFault_51 : decode cX2_findFault 51 = .ok (.getfield 9, 3) := by decide +kernel
theorem dX2_findFault_54 : decode cX2_findFault 54 = .ok (.aload_n 0, 1) := by decide +kernel
theorem dX2_findFault_55 : decode cX2_findFault 55 = .ok (.getfield 21, 3) := by decide +kernel
theorem dX2_findFault_58 : decode cX2_findFault 58 = .ok (.caload, 1) := by decide +kernel
theorem dX2_findFault_59 : decode cX2_findFault 59 = .ok (.bipush 44, 2) := by decide +kernel
theorem dX2_findFault_61 : decode cX2_findFault 61 = .ok (.if_icmp .eq 8, 3) := by decide +kernel
theorem dX2_findFault_64 : decode cX2_findFault 64 = .ok (.aload_n 0, 1) := by decide +kernel
theorem dX2_findFault_65 : decode cX2_findFault 65 = .ok (.getfield 21, 3) := by decide +kernel
theorem dX2_findFault_68 : decode cX2_findFault 68 = .ok (.ireturn, 1) := by decide +kernel
theorem dX2_findFault_69 : decode cX2_findFault 69 = .ok (.aload_n 0, 1) := by decide +kernel
theorem dX2_findFault_70 : decode cX2_findFault 70 = .ok (.dup, 1) := by decide +kernel
theorem dX2_findFault_71 : decode cX2_findFault 71 = .ok (.getfield 21, 3) := by decide +kernel
theorem dX2_findFault_74 : decode cX2_findFault 74 = .ok (.iconst 1, 1) := by decide +kernel
theorem dX2_findFault_75 : decode cX2_findFault 75 = .ok (.iadd, 1) := by decide +kernel
theorem dX2_findFault_76 : decode cX2_findFault 76 = .ok (.putfield 21, 3) := by decide +kernel
theorem dX2_findFault_79 : decode cX2_findFault 79 = .ok (.iinc 1 1, 3) := by decide +kernel
theorem dX2_findFault_82 : decode cX2_findFault 82 = .ok (.goto (-75), 3) := by decide +kernel
theorem dX2_findFault_85 : decode cX2_findFault 85 = .ok (.aload_n 0, 1) := by decide +kernel
theorem dX2_findFault_86 : decode cX2_findFault 86 = .ok (.getfield 15, 3) := by decide +kernel
theorem dX2_findFault_89 : decode cX2_findFault 89 = .ok (.ireturn, 1) := by decide +kernel
theorem dX2_rewind_0 : decode cX2_rewind 0 = .ok (.aload_n 0, 1) := by decide +kernel
theorem dX2_rewind_1 : decode cX2_rewind 1 = .ok (.iconst 0, 1) := by decide +kernel
theorem dX2_rewind_2 : decode cX2_rewind 2 = .ok (.putfield 21, 3) := by decide +kernel
theorem dX2_rewind_5 : decode cX2_rewind 5 = .ok (.return_, 1) := by decide +kernel
theorem dX2_readNext_0 : decode cX2_readNext 0 = .ok (.aload_n 0, 1) := by decide +kernel
theorem dX2_readNext_1 : decode cX2_readNext 1 = .ok (.getfield 21, 3) := by decide +kernel
theorem dX2_readNext_4 : decode cX2_readNext 4 = .ok (.aload_n 0, 1) := by decide +kernel
theorem dX2_readNext_5 : decode cX2_readNext 5 = .ok (.getfield 15, 3) := by decide +kernel
theorem dX2_readNext_8 : decode cX2_readNext 8 = .ok (.if_icmp .lt 5, 3) := by decide +kernel
theorem dX2_readNext_11 : decode cX2_readNext 11 = .ok (.iconst 0, 1) := by decide +kernel
theorem dX2_readNext_12 : decode cX2_readNext 12 = .ok (.ireturn, 1) := by decide +kernel
theorem dX2_readNext_13 : decode cX2_readNext 13 = .ok (.aload_n 0, 1) := by decide +kernel
theorem dX2_readNext_14 : decode cX2_readNext 14 = .ok (.invokevirtual 24, 3) := by decide +kernel
theorem dX2_readNext_17 : decode cX2_readNext 17 = .ok (.istore_n 1, 1) := by decide +kernel
theorem dX2_readNext_18 : decode cX2_readNext 18 = .ok (.aload_n 0, 1) := by decide +kernel
theorem dX2_readNext_19 : decode cX2_readNext 19 = .ok (.dup, 1) := by decide +kernel
theorem dX2_readNext_20 : decode cX2_readNext 20 = .ok (.getfield 21, 3) := by decide +kernel
theorem dX2_readNext_23 : decode cX2_readNext 23 = .ok (.iconst 1, 1) := by decide +kernel
theorem dX2_readNext_24 : decode cX2_readNext 24 = .ok (.iadd, 1) := by decide +kernel
theorem dX2_readNext_25 : decode cX2_readNext 25 = .ok (.putfield 21, 3) := by decide +kernel
theorem dX2_readNext_28 : decode cX2_readNext 28 = .ok (.iload_n 1, 1) := by decide +kernel
theorem dX2_readNext_29 : decode cX2_readNext 29 = .ok (.ireturn, 1) := by decide +kernel
theorem dX2_readArrival_0 : decode cX2_readArrival 0 = .ok (.aload_n 0, 1) := by decide +kernel
theorem dX2_readArrival_1 : decode cX2_readArrival 1 = .ok (.aload_n 0, 1) := by decide +kernel
theorem dX2_readArrival_2 : decode cX2_readArrival 2 = .ok (.getfield 21, 3) := by decide +kernel
theorem dX2_readArrival_5 : decode cX2_readArrival 5 = .ok (.aload_n 0, 1) := by decide +kernel
theorem dX2_readArrival_6 : decode cX2_readArrival 6 = .ok (.getfield 15, 3) := by decide +kernel
theorem dX2_readArrival_9 : decode cX2_readArrival 9 = .ok (.if_icmp .ge 18, 3) := by decide +kernel
theorem dX2_readArrival_12 : decode cX2_readArrival 12 = .ok (.aload_n 0, 1) := by decide +kernel
theorem dX2_readArrival_13 : decode cX2_readArrival 13 = .ok (.getfield 9, 3) := by decide +kernel
theorem dX2_readArrival_16 : decode cX2_readArrival 16 = .ok (.aload_n 0, 1) := by decide +kernel
theorem dX2_readArrival_17 : decode cX2_readArrival 17 = .ok (.getfield 21, 3) := by decide +kernel
theorem dX2_readArrival_20 : decode cX2_readArrival 20 = .ok (.caload, 1) := by decide +kernel
theorem dX2_readArrival_21 : decode cX2_readArrival 21 = .ok (.bipush 97, 2) := by decide +kernel
theorem dX2_readArrival_23 : decode cX2_readArrival 23 = .ok (.isub, 1) := by decide +kernel
theorem dX2_readArrival_24 : decode cX2_readArrival 24 = .ok (.goto 5, 3) := by decide +kernel
theorem dX2_readArrival_27 : decode cX2_readArrival 27 = .ok (.bipush (-6), 2) := by decide +kernel
theorem dX2_readArrival_29 : decode cX2_readArrival 29 = .ok (.putfield 28, 3) := by decide +kernel
theorem dX2_readArrival_32 : decode cX2_readArrival 32 = .ok (.aload_n 0, 1) := by decide +kernel
theorem dX2_readArrival_33 : decode cX2_readArrival 33 = .ok (.getfield 28, 3) := by decide +kernel
theorem dX2_readArrival_36 : decode cX2_readArrival 36 = .ok (.ifCond .lt 12, 3) := by decide +kernel
theorem dX2_readArrival_39 : decode cX2_readArrival 39 = .ok (.aload_n 0, 1) := by decide +kernel
theorem dX2_readArrival_40 : decode cX2_readArrival 40 = .ok (.getfield 28, 3) := by decide +kernel
theorem dX2_readArrival_43 : decode cX2_readArrival 43 = .ok (.bipush 6, 2) := by decide +kernel
theorem dX2_readArrival_45 : decode cX2_readArrival 45 = .ok (.if_icmp .lt 5, 3) := by decide +kernel
theorem dX2_readArrival_48 : decode cX2_readArrival 48 = .ok (.iconst 0, 1) := by decide +kernel
theorem dX2_readArrival_49 : decode cX2_readArrival 49 = .ok (.ireturn, 1) := by decide +kernel
theorem dX2_readArrival_50 : decode cX2_readArrival 50 = .ok (.aload_n 0, 1) := by decide +kernel
theorem dX2_readArrival_51 : decode cX2_readArrival 51 = .ok (.dup, 1) := by decide +kernel
theorem dX2_readArrival_52 : decode cX2_readArrival 52 = .ok (.getfield 21, 3) := by decide +kernel
theorem dX2_readArrival_55 : decode cX2_readArrival 55 = .ok (.iconst 1, 1) := by decide +kernel
theorem dX2_readArrival_56 : decode cX2_readArrival 56 = .ok (.iadd, 1) := by decide +kernel
theorem dX2_readArrival_57 : decode cX2_readArrival 57 = .ok (.putfield 21, 3) := by decide +kernel
theorem dX2_readArrival_60 : decode cX2_readArrival 60 = .ok (.aload_n 0, 1) := by decide +kernel
theorem dX2_readArrival_61 : decode cX2_readArrival 61 = .ok (.aload_n 0, 1) := by decide +kernel
theorem dX2_readArrival_62 : decode cX2_readArrival 62 = .ok (.sipush 2000, 3) := by decide +kernel
theorem dX2_readArrival_65 : decode cX2_readArrival 65 = .ok (.invokevirtual 31, 3) := by decide +kernel
theorem dX2_readArrival_68 : decode cX2_readArrival 68 = .ok (.putfield 35, 3) := by decide +kernel
theorem dX2_readArrival_71 : decode cX2_readArrival 71 = .ok (.aload_n 0, 1) := by decide +kernel
theorem dX2_readArrival_72 : decode cX2_readArrival 72 = .ok (.getfield 35, 3) := by decide +kernel
theorem dX2_readArrival_75 : decode cX2_readArrival 75 = .ok (.ifCond .ne 5, 3) := by decide +kernel
theorem dX2_readArrival_78 : decode cX2_readArrival 78 = .ok (.iconst 0, 1) := by decide +kernel
theorem dX2_readArrival_79 : decode cX2_readArrival 79 = .ok (.ireturn, 1) := by decide +kernel
theorem dX2_readArrival_80 : decode cX2_readArrival 80 = .ok (.aload_n 0, 1) := by decide +kernel
theorem dX2_readArrival_81 : decode cX2_readArrival 81 = .ok (.aload_n 0, 1) := by decide +kernel
theorem dX2_readArrival_82 : decode cX2_readArrival 82 = .ok (.bipush 64, 2) := by decide +kernel
theorem dX2_readArrival_84 : decode cX2_readArrival 84 = .ok (.sipush 9999, 3) := by decide +kernel
theorem dX2_readArrival_87 : decode cX2_readArrival 87 = .ok (.iconst 0, 1) := by decide +kernel
theorem dX2_readArrival_88 : decode cX2_readArrival 88 = .ok (.invokevirtual 38, 3) := by decide +kernel
theorem dX2_readArrival_91 : decode cX2_readArrival 91 = .ok (.putfield 42, 3) := by decide +kernel
theorem dX2_readArrival_94 : decode cX2_readArrival 94 = .ok (.aload_n 0, 1) := by decide +kernel
theorem dX2_readArrival_95 : decode cX2_readArrival 95 = .ok (.getfield 42, 3) := by decide +kernel
theorem dX2_readArrival_98 : decode cX2_readArrival 98 = .ok (.bipush (-6), 2) := by decide +kernel
theorem dX2_readArrival_100 : decode cX2_readArrival 100 = .ok (.if_icmp .ne 5, 3) := by decide +kernel
theorem dX2_readArrival_103 : decode cX2_readArrival 103 = .ok (.iconst 0, 1) := by decide +kernel
theorem dX2_readArrival_104 : decode cX2_readArrival 104 = .ok (.ireturn, 1) := by decide +kernel
theorem dX2_readArrival_105 : decode cX2_readArrival 105 = .ok (.aload_n 0, 1) := by decide +kernel
theorem dX2_readArrival_106 : decode cX2_readArrival 106 = .ok (.aload_n 0, 1) := by decide +kernel
theorem dX2_readArrival_107 : decode cX2_readArrival 107 = .ok (.bipush 42, 2) := by decide +kernel
theorem dX2_readArrival_109 : decode cX2_readArrival 109 = .ok (.bipush 9, 2) := by decide +kernel
theorem dX2_readArrival_111 : decode cX2_readArrival 111 = .ok (.iconst 1, 1) := by decide +kernel
theorem dX2_readArrival_112 : decode cX2_readArrival 112 = .ok (.invokevirtual 38, 3) := by decide +kernel
theorem dX2_readArrival_115 : decode cX2_readArrival 115 = .ok (.putfield 45, 3) := by decide +kernel
theorem dX2_readArrival_118 : decode cX2_readArrival 118 = .ok (.aload_n 0, 1) := by decide +kernel
theorem dX2_readArrival_119 : decode cX2_readArrival 119 = .ok (.getfield 45, 3) := by decide +kernel
theorem dX2_readArrival_122 : decode cX2_readArrival 122 = .ok (.bipush (-6), 2) := by decide +kernel
theorem dX2_readArrival_124 : decode cX2_readArrival 124 = .ok (.if_icmp .eq 7, 3) := by decide +kernel
theorem dX2_readArrival_127 : decode cX2_readArrival 127 = .ok (.iconst 1, 1) := by decide +kernel
theorem dX2_readArrival_128 : decode cX2_readArrival 128 = .ok (.goto 4, 3) := by decide +kernel
theorem dX2_readArrival_131 : decode cX2_readArrival 131 = .ok (.iconst 0, 1) := by decide +kernel
theorem dX2_readArrival_132 : decode cX2_readArrival 132 = .ok (.ireturn, 1) := by decide +kernel
theorem dX2_readBehind_0 : decode cX2_readBehind 0 = .ok (.aload_n 0, 1) := by decide +kernel
theorem dX2_readBehind_1 : decode cX2_readBehind 1 = .ok (.getfield 21, 3) := by decide +kernel
theorem dX2_readBehind_4 : decode cX2_readBehind 4 = .ok (.aload_n 0, 1) := by decide +kernel
theorem dX2_readBehind_5 : decode cX2_readBehind 5 = .ok (.getfield 15, 3) := by decide +kernel
theorem dX2_readBehind_8 : decode cX2_readBehind 8 = .ok (.if_icmp .ge 16, 3) := by decide +kernel
theorem dX2_readBehind_11 : decode cX2_readBehind 11 = .ok (.aload_n 0, 1) := by decide +kernel
theorem dX2_readBehind_12 : decode cX2_readBehind 12 = .ok (.getfield 9, 3) := by decide +kernel
theorem dX2_readBehind_15 : decode cX2_readBehind 15 = .ok (.aload_n 0, 1) := by decide +kernel
theorem dX2_readBehind_16 : decode cX2_readBehind 16 = .ok (.getfield 21, 3) := by decide +kernel
theorem dX2_readBehind_19 : decode cX2_readBehind 19 = .ok (.caload, 1) := by decide +kernel
theorem dX2_readBehind_20 : decode cX2_readBehind 20 = .ok (.iload_n 1, 1) := by decide +kernel
theorem dX2_readBehind_21 : decode cX2_readBehind 21 = .ok (.if_icmp .eq 5, 3) := by decide +kernel
theorem dX2_readBehind_24 : decode cX2_readBehind 24 = .ok (.iload_n 3, 1) := by decide +kernel
theorem dX2_readBehind_25 : decode cX2_readBehind 25 = .ok (.ireturn, 1) := by decide +kernel
theorem dX2_readBehind_26 : decode cX2_readBehind 26 = .ok (.aload_n 0, 1) := by decide +kernel
theorem dX2_readBehind_27 : decode cX2_readBehind 27 = .ok (.dup, 1) := by decide +kernel
theorem dX2_readBehind_28 : decode cX2_readBehind 28 = .ok (.getfield 21, 3) := by decide +kernel
theorem dX2_readBehind_31 : decode cX2_readBehind 31 = .ok (.iconst 1, 1) := by decide +kernel
theorem dX2_readBehind_32 : decode cX2_readBehind 32 = .ok (.iadd, 1) := by decide +kernel
theorem dX2_readBehind_33 : decode cX2_readBehind 33 = .ok (.putfield 21, 3) := by decide +kernel
theorem dX2_readBehind_36 : decode cX2_readBehind 36 = .ok (.aload_n 0, 1) := by decide +kernel
theorem dX2_readBehind_37 : decode cX2_readBehind 37 = .ok (.iload_n 2, 1) := by decide +kernel
theorem dX2_readBehind_38 : decode cX2_readBehind 38 = .ok (.invokevirtual 31, 3) := by decide +kernel
theorem dX2_readBehind_41 : decode cX2_readBehind 41 = .ok (.istore 4, 2) := by decide +kernel
theorem dX2_readBehind_43 : decode cX2_readBehind 43 = .ok (.iload 4, 2) := by decide +kernel
theorem dX2_readBehind_45 : decode cX2_readBehind 45 = .ok (.ifCond .ne 8, 3) := by decide +kernel
theorem dX2_readBehind_48 : decode cX2_readBehind 48 = .ok (.bipush (-6), 2) := by decide +kernel
theorem dX2_readBehind_50 : decode cX2_readBehind 50 = .ok (.goto 5, 3) := by decide +kernel
theorem dX2_readBehind_53 : decode cX2_readBehind 53 = .ok (.iload 4, 2) := by decide +kernel
theorem dX2_readBehind_55 : decode cX2_readBehind 55 = .ok (.ireturn, 1) := by decide +kernel
theorem dX2_readNumber_0 : decode cX2_readNumber 0 = .ok (.iconst 0, 1) := by decide +kernel
theorem dX2_readNumber_1 : decode cX2_readNumber 1 = .ok (.istore_n 2, 1) := by decide +kernel
theorem dX2_readNumber_2 : decode cX2_readNumber 2 = .ok (.aload_n 0, 1) := by decide +kernel
theorem dX2_readNumber_3 : decode cX2_readNumber 3 = .ok (.getfield 21, 3) := by decide +kernel
theorem dX2_readNumber_6 : decode cX2_readNumber 6 = .ok (.aload_n 0, 1) := by decide +kernel
theorem dX2_readNumber_7 : decode cX2_readNumber 7 = .ok (.getfield 15, 3) := by decide +kernel
theorem dX2_readNumber_10 : decode cX2_readNumber 10 = .ok (.if_icmp .ge 78, 3) := by decide +kernel
theorem dX2_readNumber_13 : decode cX2_readNumber 13 = .ok (.aload_n 0, 1) := by decide +kernel
theorem dX2_readNumber_14 : decode cX2_readNumber 14 = .ok (.getfield 9, 3) := by decide +kernel
theorem dX2_readNumber_17 : decode cX2_readNumber 17 = .ok (.aload_n 0, 1) := by decide +kernel
theorem dX2_readNumber_18 : decode cX2_readNumber 18 = .ok (.getfield 21, 3) := by decide +kernel
theorem dX2_readNumber_21 : decode cX2_readNumber 21 = .ok (.caload, 1) := by decide +kernel
theorem dX2_readNumber_22 : decode cX2_readNumber 22 = .ok (.bipush 48, 2) := by decide +kernel
theorem dX2_readNumber_24 : decode cX2_readNumber 24 = .ok (.isub, 1) := by decide +kernel
theorem dX2_readNumber_25 : decode cX2_readNumber 25 = .ok (.istore_n 3, 1) := by decide +kernel
theorem dX2_readNumber_26 : decode cX2_readNumber 26 = .ok (.iload_n 2, 1) := by decide +kernel
theorem dX2_readNumber_27 : decode cX2_readNumber 27 = .ok (.ifCond .ne 11, 3) := by decide +kernel
theorem dX2_readNumber_30 : decode cX2_readNumber 30 = .ok (.iload_n 3, 1) := by decide +kernel
theorem dX2_readNumber_31 : decode cX2_readNumber 31 = .ok (.ifCond .ne 7, 3) := by decide +kernel
theorem dX2_readNumber_34 : decode cX2_readNumber 34 = .ok (.iconst 1, 1) := by decide +kernel
theorem dX2_readNumber_35 : decode cX2_readNumber 35 = .ok (.goto 4, 3) := by decide +kernel
theorem dX2_readNumber_38 : decode cX2_readNumber 38 = .ok (.iconst 0, 1) := by decide +kernel
theorem dX2_readNumber_39 : decode cX2_readNumber 39 = .ok (.istore 4, 2) := by decide +kernel
theorem dX2_readNumber_41 : decode cX2_readNumber 41 = .ok (.iload_n 3, 1) := by decide +kernel
theorem dX2_readNumber_42 : decode cX2_readNumber 42 = .ok (.ifCond .lt 24, 3) := by decide +kernel
theorem dX2_readNumber_45 : decode cX2_readNumber 45 = .ok (.iload_n 3, 1) := by decide +kernel
theorem dX2_readNumber_46 : decode cX2_readNumber 46 = .ok (.bipush 9, 2) := by decide +kernel
theorem dX2_readNumber_48 : decode cX2_readNumber 48 = .ok (.if_icmp .gt 18, 3) := by decide +kernel
theorem dX2_readNumber_51 : decode cX2_readNumber 51 = .ok (.iload 4, 2) := by decide +kernel
theorem dX2_readNumber_53 : decode cX2_readNumber 53 = .ok (.ifCond .ne 13, 3) := by decide +kernel
theorem dX2_readNumber_56 : decode cX2_readNumber 56 = .ok (.iload_n 2, 1) := by decide +kernel
theorem dX2_readNumber_57 : decode cX2_readNumber 57 = .ok (.bipush 10, 2) := by decide +kernel
theorem dX2_readNumber_59 : decode cX2_readNumber 59 = .ok (.imul, 1) := by decide +kernel
theorem dX2_readNumber_60 : decode cX2_readNumber 60 = .ok (.iload_n 3, 1) := by decide +kernel
theorem dX2_readNumber_61 : decode cX2_readNumber 61 = .ok (.iadd, 1) := by decide +kernel
theorem dX2_readNumber_62 : decode cX2_readNumber 62 = .ok (.iload_n 1, 1) := by decide +kernel
theorem dX2_readNumber_63 : decode cX2_readNumber 63 = .ok (.if_icmp .le 5, 3) := by decide +kernel
theorem dX2_readNumber_66 : decode cX2_readNumber 66 = .ok (.iload_n 2, 1) := by decide +kernel
theorem dX2_readNumber_67 : decode cX2_readNumber 67 = .ok (.ireturn, 1) := by decide +kernel
theorem dX2_readNumber_68 : decode cX2_readNumber 68 = .ok (.iload_n 2, 1) := by decide +kernel
theorem dX2_readNumber_69 : decode cX2_readNumber 69 = .ok (.bipush 10, 2) := by decide +kernel
theorem dX2_readNumber_71 : decode cX2_readNumber 71 = .ok (.imul, 1) := by decide +kernel
theorem dX2_readNumber_72 : decode cX2_readNumber 72 = .ok (.iload_n 3, 1) := by decide +kernel
theorem dX2_readNumber_73 : decode cX2_readNumber 73 = .ok (.iadd, 1) := by decide +kernel
theorem dX2_readNumber_74 : decode cX2_readNumber 74 = .ok (.istore_n 2, 1) := by decide +kernel
theorem dX2_readNumber_75 : decode cX2_readNumber 75 = .ok (.aload_n 0, 1) := by decide +kernel
theorem dX2_readNumber_76 : decode cX2_readNumber 76 = .ok (.dup, 1) := by decide +kernel
theorem dX2_readNumber_77 : decode cX2_readNumber 77 = .ok (.getfield 21, 3) := by decide +kernel
theorem dX2_readNumber_80 : decode cX2_readNumber 80 = .ok (.iconst 1, 1) := by decide +kernel
theorem dX2_readNumber_81 : decode cX2_readNumber 81 = .ok (.iadd, 1) := by decide +kernel
theorem dX2_readNumber_82 : decode cX2_readNumber 82 = .ok (.putfield 21, 3) := by decide +kernel
theorem dX2_readNumber_85 : decode cX2_readNumber 85 = .ok (.goto (-83), 3) := by decide +kernel
theorem dX2_readNumber_88 : decode cX2_readNumber 88 = .ok (.iload_n 2, 1) := by decide +kernel
theorem dX2_readNumber_89 : decode cX2_readNumber 89 = .ok (.ireturn, 1) := by decide +kernel
theorem dX2_copyFrom_0 : decode cX2_copyFrom 0 = .ok (.aload_n 1, 1) := by decide +kernel
theorem dX2_copyFrom_1 : decode cX2_copyFrom 1 = .ok (.getfield 9, 3) := by decide +kernel
theorem dX2_copyFrom_4 : decode cX2_copyFrom 4 = .ok (.iconst 0, 1) := by decide +kernel
theorem dX2_copyFrom_5 : decode cX2_copyFrom 5 = .ok (.aload_n 0, 1) := by decide +kernel
theorem dX2_copyFrom_6 : decode cX2_copyFrom 6 = .ok (.getfield 9, 3) := by decide +kernel
theorem dX2_copyFrom_9 : decode cX2_copyFrom 9 = .ok (.iconst 0, 1) := by decide +kernel
theorem dX2_copyFrom_10 : decode cX2_copyFrom 10 = .ok (.aload_n 0, 1) := by decide +kernel
theorem dX2_copyFrom_11 : decode cX2_copyFrom 11 = .ok (.getfield 9, 3) := by decide +kernel
theorem dX2_copyFrom_14 : decode cX2_copyFrom 14 = .ok (.arraylength, 1) := by decide +kernel
theorem dX2_copyFrom_15 : decode cX2_copyFrom 15 = .ok (.invokestatic 48, 3) := by decide +kernel
theorem dX2_copyFrom_18 : decode cX2_copyFrom 18 = .ok (.aload_n 0, 1) := by decide +kernel
theorem dX2_copyFrom_19 : decode cX2_copyFrom 19 = .ok (.aload_n 1, 1) := by decide +kernel
theorem dX2_copyFrom_20 : decode cX2_copyFrom 20 = .ok (.getfield 15, 3) := by decide +kernel
theorem dX2_copyFrom_23 : decode cX2_copyFrom 23 = .ok (.putfield 15, 3) := by decide +kernel
theorem dX2_copyFrom_26 : decode cX2_copyFrom 26 = .ok (.return_, 1) := by decide +kernel
theorem dX3_init_0 : decode cX3_init 0 = .ok (.aload_n 0, 1) := by decide +kernel
theorem dX3_init_1 : decode cX3_init 1 = .ok (.invokespecial 3, 3) := by decide +kernel
theorem dX3_init_4 : decode cX3_init 4 = .ok (.aload_n 0, 1) := by decide +kernel
theorem dX3_init_5 : decode cX3_init 5 = .ok (.invokevirtual 9, 3) := by decide +kernel
theorem dX3_init_8 : decode cX3_init 8 = .ok (.return_, 1) := by decide +kernel
theorem dX3_clear_0 : decode cX3_clear 0 = .ok (.aload_n 0, 1) := by decide +kernel
theorem dX3_clear_1 : decode cX3_clear 1 = .ok (.bipush (-6), 2) := by decide +kernel
theorem dX3_clear_3 : decode cX3_clear 3 = .ok (.putfield 14, 3) := by decide +kernel
theorem dX3_clear_6 : decode cX3_clear 6 = .ok (.aload_n 0, 1) := by decide +kernel
theorem dX3_clear_7 : decode cX3_clear 7 = .ok (.bipush (-6), 2) := by decide +kernel
theorem dX3_clear_9 : decode cX3_clear 9 = .ok (.putfield 18, 3) := by decide +kernel
theorem dX3_clear_12 : decode cX3_clear 12 = .ok (.aload_n 0, 1) := by decide +kernel
theorem dX3_clear_13 : decode cX3_clear 13 = .ok (.iconst 0, 1) := by decide +kernel
theorem dX3_clear_14 : decode cX3_clear 14 = .ok (.putfield 21, 3) := by decide +kernel
theorem dX3_clear_17 : decode cX3_clear 17 = .ok (.aload_n 0, 1) := by decide +kernel
theorem dX3_clear_18 : decode cX3_clear 18 = .ok (.iconst 0, 1) := by decide +kernel
theorem dX3_clear_19 : decode cX3_clear 19 = .ok (.putfield 24, 3) := by decide +kernel
theorem dX3_clear_22 : decode cX3_clear 22 = .ok (.aload_n 0, 1) := by decide +kernel
theorem dX3_clear_23 : decode cX3_clear 23 = .ok (.iconst 0, 1) := by decide +kernel
theorem dX3_clear_24 : decode cX3_clear 24 = .ok (.putfield 27, 3) := by decide +kernel
theorem dX3_clear_27 : decode cX3_clear 27 = .ok (.aload_n 0, 1) := by decide +kernel
theorem dX3_clear_28 : decode cX3_clear 28 = .ok (.bipush (-6), 2) := by decide +kernel
theorem dX3_clear_30 : decode cX3_clear 30 = .ok (.putfield 30, 3) := by decide +kernel
theorem dX3_clear_33 : decode cX3_clear 33 = .ok (.aload_n 0, 1) := by decide +kernel
theorem dX3_clear_34 : decode cX3_clear 34 = .ok (.iconst 0, 1) := by decide +kernel
theorem dX3_clear_35 : decode cX3_clear 35 = .ok (.putfield 33, 3) := by decide +kernel
theorem dX3_clear_38 : decode cX3_clear 38 = .ok (.return_, 1) := by decide +kernel
theorem dX3_copyFrom_0 : decode cX3_copyFrom 0 = .ok (.aload_n 0, 1) := by decide +kernel
theorem dX3_copyFrom_1 : decode cX3_copyFrom 1 = .ok (.aload_n 1, 1) := by decide +kernel
theorem dX3_copyFrom_2 : decode cX3_copyFrom 2 = .ok (.getfield 14, 3) := by decide +kernel
theorem dX3_copyFrom_5 : decode cX3_copyFrom 5 = .ok (.putfield 14, 3) := by decide +kernel
theorem dX3_copyFrom_8 : decode cX3_copyFrom 8 = .ok (.aload_n 0, 1) := by decide +kernel
theorem dX3_copyFrom_9 : decode cX3_copyFrom 9 = .ok (.aload_n 1, 1) := by decide +kernel
theorem dX3_copyFrom_10 : decode cX3_copyFrom 10 = .ok (.getfield 18, 3) := by decide +kernel
theorem dX3_copyFrom_13 : decode cX3_copyFrom 13 = .ok (.putfield 18, 3) := by decide +kernel
theorem dX3_copyFrom_16 : decode cX3_copyFrom 16 = .ok (.aload_n 0, 1) := by decide +kernel
theorem dX3_copyFrom_17 : decode cX3_copyFrom 17 = .ok (.aload_n 1, 1) := by decide +kernel
theorem dX3_copyFrom_18 : decode cX3_copyFrom 18 = .ok (.getfield 21, 3) := by decide +kernel
theorem dX3_copyFrom_21 : decode cX3_copyFrom 21 = .ok (.putfield 21, 3) := by decide +kernel
theorem dX3_copyFrom_24 : decode cX3_copyFrom 24 = .ok (.aload_n 0, 1) := by decide +kernel
theorem dX3_copyFrom_25 : decode cX3_copyFrom 25 = .ok (.aload_n 1, 1) := by decide +kernel
theorem dX3_copyFrom_26 : decode cX3_copyFrom 26 = .ok (.getfield 24, 3) := by decide +kernel
theorem dX3_copyFrom_29 : decode cX3_copyFrom 29 = .ok (.putfield 24, 3) := by decide +kernel
theorem dX3_copyFrom_32 : decode cX3_copyFrom 32 = .ok (.aload_n 0, 1) := by decide +kernel
theorem dX3_copyFrom_33 : decode cX3_copyFrom 33 = .ok (.aload_n 1, 1) := by decide +kernel
theorem dX3_copyFrom_34 : decode cX3_copyFrom 34 = .ok (.getfield 27, 3) := by decide +kernel
theorem dX3_copyFrom_37 : decode cX3_copyFrom 37 = .ok (.putfield 27, 3) := by decide +kernel
theorem dX3_copyFrom_40 : decode cX3_copyFrom 40 = .ok (.aload_n 0, 1) := by decide +kernel
theorem dX3_copyFrom_41 : decode cX3_copyFrom 41 = .ok (.aload_n 1, 1) := by decide +kernel
theorem dX3_copyFrom_42 : decode cX3_copyFrom 42 = .ok (.getfield 30, 3) := by decide +kernel
theorem dX3_copyFrom_45 : decode cX3_copyFrom 45 = .ok (.putfield 30, 3) := by decide +kernel
theorem dX3_copyFrom_48 : decode cX3_copyFrom 48 = .ok (.aload_n 0, 1) := by decide +kernel
theorem dX3_copyFrom_49 : decode cX3_copyFrom 49 = .ok (.aload_n 1, 1) := by decide +kernel
theorem dX3_copyFrom_50 : decode cX3_copyFrom 50 = .ok (.getfield 33, 3) := by decide +kernel
theorem dX3_copyFrom_53 : decode cX3_copyFrom 53 = .ok (.putfield 33, 3) := by decide +kernel
theorem dX3_copyFrom_56 : decode cX3_copyFrom 56 = .ok (.return_, 1) := by decide +kernel
theorem dX4_init_0 : decode cX4_init 0 = .ok (.aload_n 0, 1) := by decide +kernel
theorem dX4_init_1 : decode cX4_init 1 = .ok (.invokespecial 3, 3) := by decide +kernel
theorem dX4_init_4 : decode cX4_init 4 = .ok (.aload_n 0, 1) := by decide +kernel
theorem dX4_init_5 : decode cX4_init 5 = .ok (.getstatic 9, 3) := by decide +kernel
theorem dX4_init_8 : decode cX4_init 8 = .ok (.arraylength, 1) := by decide +kernel
theorem dX4_init_9 : decode cX4_init 9 = .ok (.newarray .int, 2) := by decide +kernel
theorem dX4_init_11 : decode cX4_init 11 = .ok (.putfield 13, 3) := by decide +kernel
theorem dX4_init_14 : decode cX4_init 14 = .ok (.getstatic 9, 3) := by decide +kernel
theorem dX4_init_17 : decode cX4_init 17 = .ok (.iconst 0, 1) := by decide +kernel
theorem dX4_init_18 : decode cX4_init 18 = .ok (.aload_n 0, 1) := by decide +kernel
theorem dX4_init_19 : decode cX4_init 19 = .ok (.getfield 13, 3) := by decide +kernel
theorem dX4_init_22 : decode cX4_init 22 = .ok (.iconst 0, 1) := by decide +kernel
theorem dX4_init_23 : decode cX4_init 23 = .ok (.aload_n 0, 1) := by decide +kernel
theorem dX4_init_24 : decode cX4_init 24 = .ok (.getfield 13, 3) := by decide +kernel
theorem dX4_init_27 : decode cX4_init 27 = .ok (.arraylength, 1) := by decide +kernel
theorem dX4_init_28 : decode cX4_init 28 = .ok (.invokestatic 18, 3) := by decide +kernel
theorem dX4_init_31 : decode cX4_init 31 = .ok (.aload_n 0, 1) := by decide +kernel
theorem dX4_init_32 : decode cX4_init 32 = .ok (.bipush 6, 2) := by decide +kernel
theorem dX4_init_34 : decode cX4_init 34 = .ok (.anewarray 24, 3) := by decide +kernel
theorem dX4_init_37 : decode cX4_init 37 = .ok (.putfield 26, 3) := by decide +kernel
theorem dX4_init_40 : decode cX4_init 40 = .ok (.iconst 0, 1) := by decide +kernel
theorem dX4_init_41 : decode cX4_init 41 = .ok (.istore_n 1, 1) := by decide +kernel
theorem dX4_init_42 : decode cX4_init 42 = .ok (.iload_n 1, 1) := by decide +kernel
theorem dX4_init_43 : decode cX4_init 43 = .ok (.aload_n 0, 1) := by decide +kernel
theorem dX4_init_44 : decode cX4_init 44 = .ok (.getfield 26, 3) := by decide +kernel
theorem dX4_init_47 : decode cX4_init 47 = .ok (.arraylength, 1) := by decide +kernel
theorem dX4_init_48 : decode cX4_init 48 = .ok (.if_icmp .ge 22, 3) := by decide +kernel
theorem dX4_init_51 : decode cX4_init 51 = .ok (.aload_n 0, 1) := by decide +kernel
theorem dX4_init_52 : decode cX4_init 52 = .ok (.getfield 26, 3) := by decide +kernel
theorem dX4_init_55 : decode cX4_init 55 = .ok (.iload_n 1, 1) := by decide +kernel
theorem dX4_init_56 : decode cX4_init 56 = .ok (.new 24, 3) := by decide +kernel
theorem dX4_init_59 : decode cX4_init 59 = .ok (.dup, 1) := by decide +kernel
theorem dX4_init_60 : decode cX4_init 60 = .ok (.invokespecial 30, 3) := by decide +kernel
theorem dX4_init_63 : decode cX4_init 63 = .ok (.aastore, 1) := by decide +kernel
theorem dX4_init_64 : decode cX4_init 64 = .ok (.iinc 1 1, 3) := by decide +kernel
theorem dX4_init_67 : decode cX4_init 67 = .ok (.goto (-25), 3) := by decide +kernel
theorem dX4_init_70 : decode cX4_init 70 = .ok (.aload_n 0, 1) := by decide +kernel
theorem dX4_init_71 : decode cX4_init 71 = .ok (.bipush 120, 2) := by decide +kernel
theorem dX4_init_73 : decode cX4_init 73 = .ok (.anewarray 31, 3) := by decide +kernel
theorem dX4_init_76 : decode cX4_init 76 = .ok (.putfield 33, 3) := by decide +kernel
theorem dX4_init_79 : decode cX4_init 79 = .ok (.iconst 0, 1) := by decide +kernel
theorem dX4_init_80 : decode cX4_init 80 = .ok (.istore_n 1, 1) := by decide +kernel
theorem dX4_init_81 : decode cX4_init 81 = .ok (.iload_n 1, 1) := by decide +kernel
theorem dX4_init_82 : decode cX4_init 82 = .ok (.aload_n 0, 1) := by decide +kernel
theorem dX4_init_83 : decode cX4_init 83 = .ok (.getfield 33, 3) := by decide +kernel
theorem dX4_init_86 : decode cX4_init 86 = .ok (.arraylength, 1) := by decide +kernel
theorem dX4_init_87 : decode cX4_init 87 = .ok (.if_icmp .ge 22, 3) := by decide +kernel
theorem dX4_init_90 : decode cX4_init 90 = .ok (.aload_n 0, 1) := by decide +kernel
theorem dX4_init_91 : decode cX4_init 91 = .ok (.getfield 33, 3) := by decide +kernel
theorem dX4_init_94 : decode cX4_init 94 = .ok (.iload_n 1, 1) := by decide +kernel
theorem dX4_init_95 : decode cX4_init 95 = .ok (.new 31, 3) := by decide +kernel
theorem dX4_init_98 : decode cX4_init 98 = .ok (.dup, 1) := by decide +kernel
theorem dX4_init_99 : decode cX4_init 99 = .ok (.invokespecial 37, 3) := by decide +kernel
theorem dX4_init_102 : decode cX4_init 102 = .ok (.aastore, 1) := by decide +kernel
theorem dX4_init_103 : decode cX4_init 103 = .ok (.iinc 1 1, 3) := by decide +kernel
theorem dX4_init_106 : decode cX4_init 106 = .ok (.goto (-25), 3) := by decide +kernel
theorem dX4_init_109 : decode cX4_init 109 = .ok (.aload_n 0, 1) := by decide +kernel
theorem dX4_init_110 : decode cX4_init 110 = .ok (.bipush 60, 2) := by decide +kernel
theorem dX4_init_112 : decode cX4_init 112 = .ok (.anewarray 38, 3) := by decide +kernel
theorem dX4_init_115 : decode cX4_init 115 = .ok (.putfield 40, 3) := by decide +kernel
theorem dX4_init_118 : decode cX4_init 118 = .ok (.iconst 0, 1) := by decide +kernel
theorem dX4_init_119 : decode cX4_init 119 = .ok (.istore_n 1, 1) := by decide +kernel
theorem dX4_init_120 : decode cX4_init 120 = .ok (.iload_n 1, 1) := by decide +kernel
theorem dX4_init_121 : decode cX4_init 121 = .ok (.aload_n 0, 1) := by decide +kernel
theorem dX4_init_122 : decode cX4_init 122 = .ok (.getfield 40, 3) := by decide +kernel
theorem dX4_init_125 : decode cX4_init 125 = .ok (.arraylength, 1) := by decide +kernel
theorem dX4_init_126 : decode cX4_init 126 = .ok (.if_icmp .ge 22, 3) := by decide +kernel
theorem dX4_init_129 : decode cX4_init 129 = .ok (.aload_n 0, 1) := by decide +kernel
theorem dX4_init_130 : decode cX4_init 130 = .ok (.getfield 40, 3) := by decide +kernel
theorem dX4_init_133 : decode cX4_init 133 = .ok (.iload_n 1, 1) := by decide +kernel
theorem dX4_init_134 : decode cX4_init 134 = .ok (.new 38, 3) := by decide +kernel
theorem dX4_init_137 : decode cX4_init 137 = .ok (.dup, 1) := by decide +kernel
theorem dX4_init_138 : decode cX4_init 138 = .ok (.invokespecial 44, 3) := by decide +kernel
theorem dX4_init_141 : decode cX4_init 141 = .ok (.aastore, 1) := by decide +kernel
theorem dX4_init_142 : decode cX4_init 142 = .ok (.iinc 1 1, 3) := by decide +kernel
theorem dX4_init_145 : decode cX4_init 145 = .ok (.goto (-25), 3) := by decide +kernel
theorem dX4_init_148 : decode cX4_init 148 = .ok (.aload_n 0, 1) := by decide +kernel
theorem dX4_init_149 : decode cX4_init 149 = .ok (.new 38, 3) := by decide +kernel
theorem dX4_init_152 : decode cX4_init 152 = .ok (.dup, 1) := by decide +kernel
theorem dX4_init_153 : decode cX4_init 153 = .ok (.invokespecial 44, 3) := by decide +kernel
theorem dX4_init_156 : decode cX4_init 156 = .ok (.putfield 45, 3) := by decide +kernel
theorem dX4_init_159 : decode cX4_init 159 = .ok (.aload_n 0, 1) := by decide +kernel
theorem dX4_init_160 : decode cX4_init 160 = .ok (.new 49, 3) := by decide +kernel
theorem dX4_init_163 : decode cX4_init 163 = .ok (.dup, 1) := by decide +kernel
theorem dX4_init_164 : decode cX4_init 164 = .ok (.invokespecial 51, 3) := by decide +kernel
theorem dX4_init_167 : decode cX4_init 167 = .ok (.putfield 52, 3) := by decide +kernel
theorem dX4_init_170 : decode cX4_init 170 = .ok (.aload_n 0, 1) := by decide +kernel
theorem dX4_init_171 : decode cX4_init 171 = .ok (.bipush (-6), 2) := by decide +kernel
theorem dX4_init_173 : decode cX4_init 173 = .ok (.putfield 56, 3) := by decide +kernel
theorem dX4_init_176 : decode cX4_init 176 = .ok (.return_, 1) := by decide +kernel
theorem dX4_hasFlow_0 : decode cX4_hasFlow 0 = .ok (.iload_n 1, 1) := by decide +kernel
theorem dX4_hasFlow_1 : decode cX4_hasFlow 1 = .ok (.ifCond .lt 15, 3) := by decide +kernel
theorem dX4_hasFlow_4 : decode cX4_hasFlow 4 = .ok (.iload_n 1, 1) := by decide +kernel
theorem dX4_hasFlow_5 : decode cX4_hasFlow 5 = .ok (.aload_n 0, 1) := by decide +kernel
theorem dX4_hasFlow_6 : decode cX4_hasFlow 6 = .ok (.getfield 60, 3) := by decide +kernel
theorem dX4_hasFlow_9 : decode cX4_hasFlow 9 = .ok (.if_icmp .ge 7, 3) := by decide +kernel
theorem dX4_hasFlow_12 : decode cX4_hasFlow 12 = .ok (.iconst 1, 1) := by decide +kernel
theorem dX4_hasFlow_13 : decode cX4_hasFlow 13 = .ok (.goto 4, 3) := by decide +kernel
theorem dX4_hasFlow_16 : decode cX4_hasFlow 16 = .ok (.iconst 0, 1) := by decide +kernel
theorem dX4_hasFlow_17 : decode cX4_hasFlow 17 = .ok (.ireturn, 1) := by decide +kernel
theorem dX4_oldestPacket_0 : decode cX4_oldestPacket 0 = .ok (.iconst 0, 1) := by decide +kernel
theorem dX4_oldestPacket_1 : decode cX4_oldestPacket 1 = .ok (.aload_n 0, 1) := by decide +kernel
theorem dX4_oldestPacket_2 : decode cX4_oldestPacket 2 = .ok (.getfield 63, 3) := by decide +kernel
theorem dX4_oldestPacket_5 : decode cX4_oldestPacket 5 = .ok (.bipush 120, 2) := by decide +kernel
theorem dX4_oldestPacket_7 : decode cX4_oldestPacket 7 = .ok (.isub, 1) := by decide +kernel
theorem dX4_oldestPacket_8 : decode cX4_oldestPacket 8 = .ok (.invokestatic 66, 3) := by decide +kernel
theorem dX4_oldestPacket_11 : decode cX4_oldestPacket 11 = .ok (.ireturn, 1) := by decide +kernel
theorem dX4_knowsPacket_0 : decode cX4_knowsPacket 0 = .ok (.iload_n 1, 1) := by decide +kernel
theorem dX4_knowsPacket_1 : decode cX4_knowsPacket 1 = .ok (.aload_n 0, 1) := by decide +kernel
theorem dX4_knowsPacket_2 : decode cX4_knowsPacket 2 = .ok (.invokevirtual 72, 3) := by decide +kernel
theorem dX4_knowsPacket_5 : decode cX4_knowsPacket 5 = .ok (.if_icmp .lt 15, 3) := by decide +kernel
theorem dX4_knowsPacket_8 : decode cX4_knowsPacket 8 = .ok (.iload_n 1, 1) := by decide +kernel
theorem dX4_knowsPacket_9 : decode cX4_knowsPacket 9 = .ok (.aload_n 0, 1) := by decide +kernel
theorem dX4_knowsPacket_10 : decode cX4_knowsPacket 10 = .ok (.getfield 63, 3) := by decide +kernel
theorem dX4_knowsPacket_13 : decode cX4_knowsPacket 13 = .ok (.if_icmp .ge 7, 3) := by decide +kernel
theorem dX4_knowsPacket_16 : decode cX4_knowsPacket 16 = .ok (.iconst 1, 1) := by decide +kernel
theorem dX4_knowsPacket_17 : decode cX4_knowsPacket 17 = .ok (.goto 4, 3) := by decide +kernel
theorem dX4_knowsPacket_20 : decode cX4_knowsPacket 20 = .ok (.iconst 0, 1) := by decide +kernel
theorem dX4_knowsPacket_21 : decode cX4_knowsPacket 21 = .ok (.ireturn, 1) := by decide +kernel
theorem dX4_packetAt_0 : decode cX4_packetAt 0 = .ok (.aload_n 0, 1) := by decide +kernel
theorem dX4_packetAt_1 : decode cX4_packetAt 1 = .ok (.getfield 33, 3) := by decide +kernel
theorem dX4_packetAt_4 : decode cX4_packetAt 4 = .ok (.iload_n 1, 1) := by decide +kernel
theorem dX4_packetAt_5 : decode cX4_packetAt 5 = .ok (.bipush 120, 2) := by decide +kernel
theorem dX4_packetAt_7 : decode cX4_packetAt 7 = .ok (.invokestatic 76, 3) := by decide +kernel
theorem dX4_packetAt_10 : decode cX4_packetAt 10 = .ok (.aaload, 1) := by decide +kernel
theorem dX4_packetAt_11 : decode cX4_packetAt 11 = .ok (.areturn, 1) := by decide +kernel
theorem dX4_oldestPiece_0 : decode cX4_oldestPiece 0 = .ok (.iconst 0, 1) := by decide +kernel
theorem dX4_oldestPiece_1 : decode cX4_oldestPiece 1 = .ok (.aload_n 0, 1) := by decide +kernel
theorem dX4_oldestPiece_2 : decode cX4_oldestPiece 2 = .ok (.getfield 79, 3) := by decide +kernel
theorem dX4_oldestPiece_5 : decode cX4_oldestPiece 5 = .ok (.bipush 60, 2) := by decide +kernel
theorem dX4_oldestPiece_7 : decode cX4_oldestPiece 7 = .ok (.isub, 1) := by decide +kernel
theorem dX4_oldestPiece_8 : decode cX4_oldestPiece 8 = .ok (.invokestatic 66, 3) := by decide +kernel
theorem dX4_oldestPiece_11 : decode cX4_oldestPiece 11 = .ok (.ireturn, 1) := by decide +kernel
theorem dX4_knowsPiece_0 : decode cX4_knowsPiece 0 = .ok (.iload_n 1, 1) := by decide +kernel
theorem dX4_knowsPiece_1 : decode cX4_knowsPiece 1 = .ok (.aload_n 0, 1) := by decide +kernel
theorem dX4_knowsPiece_2 : decode cX4_knowsPiece 2 = .ok (.invokevirtual 82, 3) := by decide +kernel
theorem dX4_knowsPiece_5 : decode cX4_knowsPiece 5 = .ok (.if_icmp .lt 15, 3) := by decide +kernel
theorem dX4_knowsPiece_8 : decode cX4_knowsPiece 8 = .ok (.iload_n 1, 1) := by decide +kernel
theorem dX4_knowsPiece_9 : decode cX4_knowsPiece 9 = .ok (.aload_n 0, 1) := by decide +kernel
theorem dX4_knowsPiece_10 : decode cX4_knowsPiece 10 = .ok (.getfield 79, 3) := by decide +kernel
theorem dX4_knowsPiece_13 : decode cX4_knowsPiece 13 = .ok (.if_icmp .ge 7, 3) := by decide +kernel
theorem dX4_knowsPiece_16 : decode cX4_knowsPiece 16 = .ok (.iconst 1, 1) := by decide +kernel
theorem dX4_knowsPiece_17 : decode cX4_knowsPiece 17 = .ok (.goto 4, 3) := by decide +kernel
theorem dX4_knowsPiece_20 : decode cX4_knowsPiece 20 = .ok (.iconst 0, 1) := by decide +kernel
theorem dX4_knowsPiece_21 : decode cX4_knowsPiece 21 = .ok (.ireturn, 1) := by decide +kernel
theorem dX4_pieceAt_0 : decode cX4_pieceAt 0 = .ok (.aload_n 0, 1) := by decide +kernel
theorem dX4_pieceAt_1 : decode cX4_pieceAt 1 = .ok (.getfield 40, 3) := by decide +kernel
theorem dX4_pieceAt_4 : decode cX4_pieceAt 4 = .ok (.iload_n 1, 1) := by decide +kernel
theorem dX4_pieceAt_5 : decode cX4_pieceAt 5 = .ok (.bipush 60, 2) := by decide +kernel
theorem dX4_pieceAt_7 : decode cX4_pieceAt 7 = .ok (.invokestatic 76, 3) := by decide +kernel
theorem dX4_pieceAt_10 : decode cX4_pieceAt 10 = .ok (.aaload, 1) := by decide +kernel
theorem dX4_pieceAt_11 : decode cX4_pieceAt 11 = .ok (.areturn, 1) := by decide +kernel
theorem dX4_areQueuesEmpty_0 : decode cX4_areQueuesEmpty 0 = .ok (.iconst 0, 1) := by decide +kernel
theorem dX4_areQueuesEmpty_1 : decode cX4_areQueuesEmpty 1 = .ok (.istore_n 1, 1) := by decide +kernel
theorem dX4_areQueuesEmpty_2 : decode cX4_areQueuesEmpty 2 = .ok (.iload_n 1, 1) := by decide +kernel
theorem dX4_areQueuesEmpty_3 : decode cX4_areQueuesEmpty 3 = .ok (.aload_n 0, 1) := by decide +kernel
theorem dX4_areQueuesEmpty_4 : decode cX4_areQueuesEmpty 4 = .ok (.getfield 60, 3) := by decide +kernel
theorem dX4_areQueuesEmpty_7 : decode cX4_areQueuesEmpty 7 = .ok (.if_icmp .ge 23, 3) := by decide +kernel
theorem dX4_areQueuesEmpty_10 : decode cX4_areQueuesEmpty 10 = .ok (.aload_n 0, 1) := by decide +kernel
theorem dX4_areQueuesEmpty_11 : decode cX4_areQueuesEmpty 11 = .ok (.getfield 26, 3) := by decide +kernel
theorem dX4_areQueuesEmpty_14 : decode cX4_areQueuesEmpty 14 = .ok (.iload_n 1, 1) := by decide +kernel
theorem dX4_areQueuesEmpty_15 : decode cX4_areQueuesEmpty 15 = .ok (.aaload, 1) := by decide +kernel
theorem dX4_areQueuesEmpty_16 : decode cX4_areQueuesEmpty 16 = .ok (.getfield 85, 3) := by decide +kernel
theorem dX4_areQueuesEmpty_19 : decode cX4_areQueuesEmpty 19 = .ok (.ifCond .le 5, 3) := by decide +kernel
theorem dX4_areQueuesEmpty_22 : decode cX4_areQueuesEmpty 22 = .ok (.iconst 0, 1) := by decide +kernel
theorem dX4_areQueuesEmpty_23 : decode cX4_areQueuesEmpty 23 = .ok (.ireturn, 1) := by decide +kernel
theorem dX4_areQueuesEmpty_24 : decode cX4_areQueuesEmpty 24 = .ok (.iinc 1 1, 3) := by decide +kernel
theorem dX4_areQueuesEmpty_27 : decode cX4_areQueuesEmpty 27 = .ok (.goto (-25), 3) := by decide +kernel
theorem dX4_areQueuesEmpty_30 : decode cX4_areQueuesEmpty 30 = .ok (.iconst 1, 1) := by decide +kernel
theorem dX4_areQueuesEmpty_31 : decode cX4_areQueuesEmpty 31 = .ok (.ireturn, 1) := by decide +kernel
theorem dX4_unsentLength_0 : decode cX4_unsentLength 0 = .ok (.iconst 0, 1) := by decide +kernel
theorem dX4_unsentLength_1 : decode cX4_unsentLength 1 = .ok (.istore_n 2, 1) := by decide +kernel
theorem dX4_unsentLength_2 : decode cX4_unsentLength 2 = .ok (.iconst 0, 1) := by decide +kernel
theorem dX4_unsentLength_3 : decode cX4_unsentLength 3 = .ok (.istore_n 3, 1) := by decide +kernel
theorem dX4_unsentLength_4 : decode cX4_unsentLength 4 = .ok (.iload_n 3, 1) := by decide +kernel
theorem dX4_unsentLength_5 : decode cX4_unsentLength 5 = .ok (.aload_n 1, 1) := by decide +kernel
theorem dX4_unsentLength_6 : decode cX4_unsentLength 6 = .ok (.getfield 85, 3) := by decide +kernel
theorem dX4_unsentLength_9 : decode cX4_unsentLength 9 = .ok (.if_icmp .ge 25, 3) := by decide +kernel
theorem dX4_unsentLength_12 : decode cX4_unsentLength 12 = .ok (.iload_n 2, 1) := by decide +kernel
theorem dX4_unsentLength_13 : decode cX4_unsentLength 13 = .ok (.aload_n 0, 1) := by decide +kernel
theorem dX4_unsentLength_14 : decode cX4_unsentLength 14 = .ok (.aload_n 1, 1) := by decide +kernel
theorem dX4_unsentLength_15 : decode cX4_unsentLength 15 = .ok (.getfield 88, 3) := by decide +kernel
theorem dX4_unsentLength_18 : decode cX4_unsentLength 18 = .ok (.iload_n 3, 1) := by decide +kernel
theorem dX4_unsentLength_19 : decode cX4_unsentLength 19 = .ok (.iaload, 1) := by decide +kernel
theorem dX4_unsentLength_20 : decode cX4_unsentLength 20 = .ok (.invokevirtual 91, 3) := by decide +kernel
theorem dX4_unsentLength_23 : decode cX4_unsentLength 23 = .ok (.invokevirtual 95, 3) := by decide +kernel
theorem dX4_unsentLength_26 : decode cX4_unsentLength 26 = .ok (.iadd, 1) := by decide +kernel
theorem dX4_unsentLength_27 : decode cX4_unsentLength 27 = .ok (.istore_n 2, 1) := by decide +kernel
theorem dX4_unsentLength_28 : decode cX4_unsentLength 28 = .ok (.iinc 3 1, 3) := by decide +kernel
theorem dX4_unsentLength_31 : decode cX4_unsentLength 31 = .ok (.goto (-27), 3) := by decide +kernel
theorem dX4_unsentLength_34 : decode cX4_unsentLength 34 = .ok (.iload_n 2, 1) := by decide +kernel
theorem dX4_unsentLength_35 : decode cX4_unsentLength 35 = .ok (.ireturn, 1) := by decide +kernel
theorem dX4_tagOrFinish_0 : decode cX4_tagOrFinish 0 = .ok (.aload_n 1, 1) := by decide +kernel
theorem dX4_tagOrFinish_1 : decode cX4_tagOrFinish 1 = .ok (.getfield 85, 3) := by decide +kernel
theorem dX4_tagOrFinish_4 : decode cX4_tagOrFinish 4 = .ok (.ifCond .ne 8, 3) := by decide +kernel
theorem dX4_tagOrFinish_7 : decode cX4_tagOrFinish 7 = .ok (.aload_n 1, 1) := by decide +kernel
theorem dX4_tagOrFinish_8 : decode cX4_tagOrFinish 8 = .ok (.getfield 98, 3) := by decide +kernel
theorem dX4_tagOrFinish_11 : decode cX4_tagOrFinish 11 = .ok (.lreturn, 1) := by decide +kernel
theorem dX4_tagOrFinish_12 : decode cX4_tagOrFinish 12 = .ok (.aload_n 0, 1) := by decide +kernel
theorem dX4_tagOrFinish_13 : decode cX4_tagOrFinish 13 = .ok (.aload_n 1, 1) := by decide +kernel
theorem dX4_tagOrFinish_14 : decode cX4_tagOrFinish 14 = .ok (.invokevirtual 102, 3) := by decide +kernel
theorem dX4_tagOrFinish_17 : decode cX4_tagOrFinish 17 = .ok (.invokevirtual 91, 3) := by decide +kernel
theorem dX4_tagOrFinish_20 : decode cX4_tagOrFinish 20 = .ok (.astore_n 2, 1) := by decide +kernel
theorem dX4_tagOrFinish_21 : decode cX4_tagOrFinish 21 = .ok (.aload_n 2, 1) := by decide +kernel
theorem dX4_tagOrFinish_22 : decode cX4_tagOrFinish 22 = .ok (.getfield 105, 3) := by decide +kernel
theorem dX4_tagOrFinish_25 : decode cX4_tagOrFinish 25 = .ok (.aload_n 1, 1) := by decide +kernel
theorem dX4_tagOrFinish_26 : decode cX4_tagOrFinish 26 = .ok (.aload_n 2, 1) := by decide +kernel
theorem dX4_tagOrFinish_27 : decode cX4_tagOrFinish 27 = .ok (.getfield 108, 3) := by decide +kernel
theorem dX4_tagOrFinish_30 : decode cX4_tagOrFinish 30 = .ok (.invokevirtual 111, 3) := by decide +kernel
theorem dX4_tagOrFinish_33 : decode cX4_tagOrFinish 33 = .ok (.ladd, 1) := by decide +kernel
theorem dX4_tagOrFinish_34 : decode cX4_tagOrFinish 34 = .ok (.lreturn, 1) := by decide +kernel
theorem dX4_openFlow_0 : decode cX4_openFlow 0 = .ok (.aload_n 0, 1) := by decide +kernel
theorem dX4_openFlow_1 : decode cX4_openFlow 1 = .ok (.getfield 26, 3) := by decide +kernel
theorem dX4_openFlow_4 : decode cX4_openFlow 4 = .ok (.aload_n 0, 1) := by decide +kernel
theorem dX4_openFlow_5 : decode cX4_openFlow 5 = .ok (.getfield 60, 3) := by decide +kernel
theorem dX4_openFlow_8 : decode cX4_openFlow 8 = .ok (.aaload, 1) := by decide +kernel
theorem dX4_openFlow_9 : decode cX4_openFlow 9 = .ok (.iload_n 1, 1) := by decide +kernel
theorem dX4_openFlow_10 : decode cX4_openFlow 10 = .ok (.invokevirtual 115, 3) := by decide +kernel
theorem dX4_openFlow_13 : decode cX4_openFlow 13 = .ok (.aload_n 0, 1) := by decide +kernel
theorem dX4_openFlow_14 : decode cX4_openFlow 14 = .ok (.dup, 1) := by decide +kernel
theorem dX4_openFlow_15 : decode cX4_openFlow 15 = .ok (.getfield 60, 3) := by decide +kernel
theorem dX4_openFlow_18 : decode cX4_openFlow 18 = .ok (.iconst 1, 1) := by decide +kernel
theorem dX4_openFlow_19 : decode cX4_openFlow 19 = .ok (.iadd, 1) := by decide +kernel
theorem dX4_openFlow_20 : decode cX4_openFlow 20 = .ok (.putfield 60, 3) := by decide +kernel
theorem dX4_openFlow_23 : decode cX4_openFlow 23 = .ok (.aload_n 0, 1) := by decide +kernel
theorem dX4_openFlow_24 : decode cX4_openFlow 24 = .ok (.getfield 60, 3) := by decide +kernel
theorem dX4_openFlow_27 : decode cX4_openFlow 27 = .ok (.iconst 1, 1) := by decide +kernel
theorem dX4_openFlow_28 : decode cX4_openFlow 28 = .ok (.isub, 1) := by decide +kernel
theorem dX4_openFlow_29 : decode cX4_openFlow 29 = .ok (.ireturn, 1) := by decide +kernel
theorem dX4_canAccept_0 : decode cX4_canAccept 0 = .ok (.aload_n 0, 1) := by decide +kernel
theorem dX4_canAccept_1 : decode cX4_canAccept 1 = .ok (.getfield 26, 3) := by decide +kernel
theorem dX4_canAccept_4 : decode cX4_canAccept 4 = .ok (.iload_n 1, 1) := by decide +kernel
theorem dX4_canAccept_5 : decode cX4_canAccept 5 = .ok (.aaload, 1) := by decide +kernel
theorem dX4_canAccept_6 : decode cX4_canAccept 6 = .ok (.getfield 85, 3) := by decide +kernel
theorem dX4_canAccept_9 : decode cX4_canAccept 9 = .ok (.aload_n 0, 1) := by decide +kernel
theorem dX4_canAccept_10 : decode cX4_canAccept 10 = .ok (.getfield 26, 3) := by decide +kernel
theorem dX4_canAccept_13 : decode cX4_canAccept 13 = .ok (.iload_n 1, 1) := by decide +kernel
theorem dX4_canAccept_14 : decode cX4_canAccept 14 = .ok (.aaload, 1) := by decide +kernel
theorem dX4_canAccept_15 : decode cX4_canAccept 15 = .ok (.getfield 119, 3) := by decide +kernel
theorem dX4_canAccept_18 : decode cX4_canAccept 18 = .ok (.iconst 1, 1) := by decide +kernel
theorem dX4_canAccept_19 : decode cX4_canAccept 19 = .ok (.iaload, 1) := by decide +kernel
theorem dX4_canAccept_20 : decode cX4_canAccept 20 = .ok (.if_icmp .lt 5, 3) := by decide +kernel
theorem dX4_canAccept_23 : decode cX4_canAccept 23 = .ok (.iconst 0, 1) := by decide +kernel
theorem dX4_canAccept_24 : decode cX4_canAccept 24 = .ok (.ireturn, 1) := by decide +kernel
theorem dX4_canAccept_25 : decode cX4_canAccept 25 = .ok (.aload_n 0, 1) := by decide +kernel
theorem dX4_canAccept_26 : decode cX4_canAccept 26 = .ok (.getfield 63, 3) := by decide +kernel
theorem dX4_canAccept_29 : decode cX4_canAccept 29 = .ok (.bipush 120, 2) := by decide +kernel
theorem dX4_canAccept_31 : decode cX4_canAccept 31 = .ok (.if_icmp .ge 5, 3) := by decide +kernel
theorem dX4_canAccept_34 : decode cX4_canAccept 34 = .ok (.iconst 1, 1) := by decide +kernel
theorem dX4_canAccept_35 : decode cX4_canAccept 35 = .ok (.ireturn, 1) := by decide +kernel
theorem dX4_canAccept_36 : decode cX4_canAccept 36 = .ok (.aload_n 0, 1) := by decide +kernel
theorem dX4_canAccept_37 : decode cX4_canAccept 37 = .ok (.aload_n 0, 1) := by decide +kernel
theorem dX4_canAccept_38 : decode cX4_canAccept 38 = .ok (.invokevirtual 72, 3) := by decide +kernel
theorem dX4_canAccept_41 : decode cX4_canAccept 41 = .ok (.invokevirtual 91, 3) := by decide +kernel
theorem dX4_canAccept_44 : decode cX4_canAccept 44 = .ok (.getfield 120, 3) := by decide +kernel
theorem dX4_canAccept_47 : decode cX4_canAccept 47 = .ok (.istore_n 2, 1) := by decide +kernel
theorem dX4_canAccept_48 : decode cX4_canAccept 48 = .ok (.iload_n 2, 1) := by decide +kernel
theorem dX4_canAccept_49 : decode cX4_canAccept 49 = .ok (.iconst 3, 1) := by decide +kernel
theorem dX4_canAccept_50 : decode cX4_canAccept 50 = .ok (.if_icmp .eq 8, 3) := by decide +kernel
theorem dX4_canAccept_53 : decode cX4_canAccept 53 = .ok (.iload_n 2, 1) := by decide +kernel
theorem dX4_canAccept_54 : decode cX4_canAccept 54 = .ok (.iconst 4, 1) := by decide +kernel
theorem dX4_canAccept_55 : decode cX4_canAccept 55 = .ok (.if_icmp .ne 7, 3) := by decide +kernel
theorem dX4_canAccept_58 : decode cX4_canAccept 58 = .ok (.iconst 1, 1) := by decide +kernel
theorem dX4_canAccept_59 : decode cX4_canAccept 59 = .ok (.goto 4, 3) := by decide +kernel
theorem dX4_canAccept_62 : decode cX4_canAccept 62 = .ok (.iconst 0, 1) := by decide +kernel
theorem dX4_canAccept_63 : decode cX4_canAccept 63 = .ok (.ireturn, 1) := by decide +kernel
theorem dX4_accept_0 : decode cX4_accept 0 = .ok (.aload_n 0, 1) := by decide +kernel
theorem dX4_accept_1 : decode cX4_accept 1 = .ok (.getfield 63, 3) := by decide +kernel
theorem dX4_accept_4 : decode cX4_accept 4 = .ok (.istore 4, 2) := by decide +kernel
theorem dX4_accept_6 : decode cX4_accept 6 = .ok (.aload_n 0, 1) := by decide +kernel
theorem dX4_accept_7 : decode cX4_accept 7 = .ok (.getfield 26, 3) := by decide +kernel
theorem dX4_accept_10 : decode cX4_accept 10 = .ok (.iload_n 1, 1) := by decide +kernel
theorem dX4_accept_11 : decode cX4_accept 11 = .ok (.aaload, 1) := by decide +kernel
theorem dX4_accept_12 : decode cX4_accept 12 = .ok (.astore 5, 2) := by decide +kernel
theorem dX4_accept_14 : decode cX4_accept 14 = .ok (.aload_n 0, 1) := by decide +kernel
theorem dX4_accept_15 : decode cX4_accept 15 = .ok (.getfield 123, 3) := by decide +kernel
theorem dX4_accept_18 : decode cX4_accept 18 = .ok (.aload 5, 2) := by decide +kernel
theorem dX4_accept_20 : decode cX4_accept 20 = .ok (.getfield 98, 3) := by decide +kernel
theorem dX4_accept_23 : decode cX4_accept 23 = .ok (.invokestatic 126, 3) := by decide +kernel
theorem dX4_accept_26 : decode cX4_accept 26 = .ok (.lstore 6, 2) := by decide +kernel
theorem dX4_accept_28 : decode cX4_accept 28 = .ok (.aload_n 0, 1) := by decide +kernel
theorem dX4_accept_29 : decode cX4_accept 29 = .ok (.iload 4, 2) := by decide +kernel
theorem dX4_accept_31 : decode cX4_accept 31 = .ok (.invokevirtual 91, 3) := by decide +kernel
theorem dX4_accept_34 : decode cX4_accept 34 = .ok (.iload_n 1, 1) := by decide +kernel
theorem dX4_accept_35 : decode cX4_accept 35 = .ok (.iload_n 2, 1) := by decide +kernel
theorem dX4_accept_36 : decode cX4_accept 36 = .ok (.aload_n 0, 1) := by decide +kernel
theorem dX4_accept_37 : decode cX4_accept 37 = .ok (.getfield 129, 3) := by decide +kernel
theorem dX4_accept_40 : decode cX4_accept 40 = .ok (.iload_n 3, 1) := by decide +kernel
theorem dX4_accept_41 : decode cX4_accept 41 = .ok (.ifCond .ne 8, 3) := by decide +kernel
theorem dX4_accept_44 : decode cX4_accept 44 = .ok (.bipush (-6), 2) := by decide +kernel
theorem dX4_accept_46 : decode cX4_accept 46 = .ok (.goto 9, 3) := by decide +kernel
theorem dX4_accept_49 : decode cX4_accept 49 = .ok (.aload_n 0, 1) := by decide +kernel
theorem dX4_accept_50 : decode cX4_accept 50 = .ok (.getfield 129, 3) := by decide +kernel
theorem dX4_accept_53 : decode cX4_accept 53 = .ok (.iload_n 3, 1) := by decide +kernel
theorem dX4_accept_54 : decode cX4_accept 54 = .ok (.iadd, 1) := by decide +kernel
theorem dX4_accept_55 : decode cX4_accept 55 = .ok (.lload 6, 2) := by decide +kernel
theorem dX4_accept_57 : decode cX4_accept 57 = .ok (.invokevirtual 132, 3) := by decide +kernel
theorem dX4_accept_60 : decode cX4_accept 60 = .ok (.aload 5, 2) := by decide +kernel
theorem dX4_accept_62 : decode cX4_accept 62 = .ok (.lload 6, 2) := by decide +kernel
theorem dX4_accept_64 : decode cX4_accept 64 = .ok (.aload 5, 2) := by decide +kernel
theorem dX4_accept_66 : decode cX4_accept 66 = .ok (.iload_n 2, 1) := by decide +kernel
theorem dX4_accept_67 : decode cX4_accept 67 = .ok (.invokevirtual 111, 3) := by decide +kernel
theorem dX4_accept_70 : decode cX4_accept 70 = .ok (.ladd, 1) := by decide +kernel
theorem dX4_accept_71 : decode cX4_accept 71 = .ok (.putfield 98, 3) := by decide +kernel
theorem dX4_accept_74 : decode cX4_accept 74 = .ok (.aload 5, 2) := by decide +kernel
theorem dX4_accept_76 : decode cX4_accept 76 = .ok (.dup, 1) := by decide +kernel
theorem dX4_accept_77 : decode cX4_accept 77 = .ok (.getfield 135, 3) := by decide +kernel
theorem dX4_accept_80 : decode cX4_accept 80 = .ok (.iload_n 2, 1) := by decide +kernel
theorem dX4_accept_81 : decode cX4_accept 81 = .ok (.i2l, 1) := by decide +kernel
theorem dX4_accept_82 : decode cX4_accept 82 = .ok (.ldc2_w 138, 3) := by decide +kernel
theorem dX4_accept_85 : decode cX4_accept 85 = .ok (.lmul, 1) := by decide +kernel
theorem dX4_accept_86 : decode cX4_accept 86 = .ok (.ladd, 1) := by decide +kernel
theorem dX4_accept_87 : decode cX4_accept 87 = .ok (.putfield 135, 3) := by decide +kernel
theorem dX4_accept_90 : decode cX4_accept 90 = .ok (.aload 5, 2) := by decide +kernel
theorem dX4_accept_92 : decode cX4_accept 92 = .ok (.dup, 1) := by decide +kernel
theorem dX4_accept_93 : decode cX4_accept 93 = .ok (.getfield 140, 3) := by decide +kernel
theorem dX4_accept_96 : decode cX4_accept 96 = .ok (.iconst 1, 1) := by decide +kernel
theorem dX4_accept_97 : decode cX4_accept 97 = .ok (.iadd, 1) := by decide +kernel
theorem dX4_accept_98 : decode cX4_accept 98 = .ok (.putfield 140, 3) := by decide +kernel
theorem dX4_accept_101 : decode cX4_accept 101 = .ok (.aload 5, 2) := by decide +kernel
theorem dX4_accept_103 : decode cX4_accept 103 = .ok (.iload 4, 2) := by decide +kernel
theorem dX4_accept_105 : decode cX4_accept 105 = .ok (.invokevirtual 143, 3) := by decide +kernel
theorem dX4_accept_108 : decode cX4_accept 108 = .ok (.aload_n 0, 1) := by decide +kernel
theorem dX4_accept_109 : decode cX4_accept 109 = .ok (.dup, 1) := by decide +kernel
theorem dX4_accept_110 : decode cX4_accept 110 = .ok (.getfield 63, 3) := by decide +kernel
theorem dX4_accept_113 : decode cX4_accept 113 = .ok (.iconst 1, 1) := by decide +kernel
theorem dX4_accept_114 : decode cX4_accept 114 = .ok (.iadd, 1) := by decide +kernel
theorem dX4_accept_115 : decode cX4_accept 115 = .ok (.putfield 63, 3) := by decide +kernel
theorem dX4_accept_118 : decode cX4_accept 118 = .ok (.iload 4, 2) := by decide +kernel
theorem dX4_accept_120 : decode cX4_accept 120 = .ok (.ireturn, 1) := by decide +kernel
theorem dX4_makeTick_0 : decode cX4_makeTick 0 = .ok (.aload_n 0, 1) := by decide +kernel
theorem dX4_makeTick_1 : decode cX4_makeTick 1 = .ok (.invokevirtual 146, 3) := by decide +kernel
theorem dX4_makeTick_4 : decode cX4_makeTick 4 = .ok (.iconst 0, 1) := by decide +kernel
theorem dX4_makeTick_5 : decode cX4_makeTick 5 = .ok (.istore_n 1, 1) := by decide +kernel
theorem dX4_makeTick_6 : decode cX4_makeTick 6 = .ok (.iload_n 1, 1) := by decide +kernel
theorem dX4_makeTick_7 : decode cX4_makeTick 7 = .ok (.aload_n 0, 1) := by decide +kernel
theorem dX4_makeTick_8 : decode cX4_makeTick 8 = .ok (.getfield 60, 3) := by decide +kernel
theorem dX4_makeTick_11 : decode cX4_makeTick 11 = .ok (.if_icmp .ge 22, 3) := by decide +kernel
theorem dX4_makeTick_14 : decode cX4_makeTick 14 = .ok (.aload_n 0, 1) := by decide +kernel
theorem dX4_makeTick_15 : decode cX4_makeTick 15 = .ok (.getfield 26, 3) := by decide +kernel
theorem dX4_makeTick_18 : decode cX4_makeTick 18 = .ok (.iload_n 1, 1) := by decide +kernel
theorem dX4_makeTick_19 : decode cX4_makeTick 19 = .ok (.aaload, 1) := by decide +kernel
theorem dX4_makeTick_20 : decode cX4_makeTick 20 = .ok (.aload_n 0, 1) := by decide +kernel
theorem dX4_makeTick_21 : decode cX4_makeTick 21 = .ok (.getfield 123, 3) := by decide +kernel
theorem dX4_makeTick_24 : decode cX4_makeTick 24 = .ok (.invokevirtual 149, 3) := by decide +kernel
theorem dX4_makeTick_27 : decode cX4_makeTick 27 = .ok (.iinc 1 1, 3) := by decide +kernel
theorem dX4_makeTick_30 : decode cX4_makeTick 30 = .ok (.goto (-24), 3) := by decide +kernel
theorem dX4_makeTick_33 : decode cX4_makeTick 33 = .ok (.aload_n 0, 1) := by decide +kernel
theorem dX4_makeTick_34 : decode cX4_makeTick 34 = .ok (.invokevirtual 153, 3) := by decide +kernel
theorem dX4_makeTick_37 : decode cX4_makeTick 37 = .ok (.aload_n 0, 1) := by decide +kernel
theorem dX4_makeTick_38 : decode cX4_makeTick 38 = .ok (.invokevirtual 156, 3) := by decide +kernel
theorem dX4_makeTick_41 : decode cX4_makeTick 41 = .ok (.return_, 1) := by decide +kernel
theorem dX4_makeDeliveryTick_0 : decode cX4_makeDeliveryTick 0 = .ok (.aload_n 0, 1) := by decide +kernel
theorem dX4_makeDeliveryTick_1 : decode cX4_makeDeliveryTick 1 = .ok (.invokevirtual 146, 3) := by decide +kernel
theorem dX4_makeDeliveryTick_4 : decode cX4_makeDeliveryTick 4 = .ok (.aload_n 0, 1) := by decide +kernel
theorem dX4_makeDeliveryTick_5 : decode cX4_makeDeliveryTick 5 = .ok (.invokevirtual 156, 3) := by decide +kernel
theorem dX4_makeDeliveryTick_8 : decode cX4_makeDeliveryTick 8 = .ok (.return_, 1) := by decide +kernel
theorem dX4_ticksUntilDelivery_0 : decode cX4_ticksUntilDelivery 0 = .ok (.iconst 1, 1) := by decide +kernel
theorem dX4_ticksUntilDelivery_1 : decode cX4_ticksUntilDelivery 1 = .ok (.istore_n 3, 1) := by decide +kernel
theorem dX4_ticksUntilDelivery_2 : decode cX4_ticksUntilDelivery 2 = .ok (.iload_n 3, 1) := by decide +kernel
theorem dX4_ticksUntilDelivery_3 : decode cX4_ticksUntilDelivery 3 = .ok (.iload_n 2, 1) := by decide +kernel
theorem dX4_ticksUntilDelivery_4 : decode cX4_ticksUntilDelivery 4 = .ok (.if_icmp .gt 27, 3) := by decide +kernel
theorem dX4_ticksUntilDelivery_7 : decode cX4_ticksUntilDelivery 7 = .ok (.aload_n 0, 1) := by decide +kernel
theorem dX4_ticksUntilDelivery_8 : decode cX4_ticksUntilDelivery 8 = .ok (.invokevirtual 159, 3) := by decide +kernel
theorem dX4_ticksUntilDelivery_11 : decode cX4_ticksUntilDelivery 11 = .ok (.aload_n 0, 1) := by decide +kernel
theorem dX4_ticksUntilDelivery_12 : decode cX4_ticksUntilDelivery 12 = .ok (.iload_n 1, 1) := by decide +kernel
theorem dX4_ticksUntilDelivery_13 : decode cX4_ticksUntilDelivery 13 = .ok (.invokevirtual 91, 3) := by decide +kernel
theorem dX4_ticksUntilDelivery_16 : decode cX4_ticksUntilDelivery 16 = .ok (.getfield 120, 3) := by decide +kernel
theorem dX4_ticksUntilDelivery_19 : decode cX4_ticksUntilDelivery 19 = .ok (.iconst 3, 1) := by decide +kernel
theorem dX4_ticksUntilDelivery_20 : decode cX4_ticksUntilDelivery 20 = .ok (.if_icmp .ne 5, 3) := by decide +kernel
theorem dX4_ticksUntilDelivery_23 : decode cX4_ticksUntilDelivery 23 = .ok (.iload_n 3, 1) := by decide +kernel
theorem dX4_ticksUntilDelivery_24 : decode cX4_ticksUntilDelivery 24 = .ok (.ireturn, 1) := by decide +kernel
theorem dX4_ticksUntilDelivery_25 : decode cX4_ticksUntilDelivery 25 = .ok (.iinc 3 1, 3) := by decide +kernel
theorem dX4_ticksUntilDelivery_28 : decode cX4_ticksUntilDelivery 28 = .ok (.goto (-26), 3) := by decide +kernel
theorem dX4_ticksUntilDelivery_31 : decode cX4_ticksUntilDelivery 31 = .ok (.bipush (-6), 2) := by decide +kernel
theorem dX4_ticksUntilDelivery_33 : decode cX4_ticksUntilDelivery 33 = .ok (.ireturn, 1) := by decide +kernel
theorem dX4_moveTime_0 : decode cX4_moveTime 0 = .ok (.aload_n 0, 1) := by decide +kernel
theorem dX4_moveTime_1 : decode cX4_moveTime 1 = .ok (.dup, 1) := by decide +kernel
theorem dX4_moveTime_2 : decode cX4_moveTime 2 = .ok (.getfield 129, 3) := by decide +kernel
theorem dX4_moveTime_5 : decode cX4_moveTime 5 = .ok (.iconst 1, 1) := by decide +kernel
theorem dX4_moveTime_6 : decode cX4_moveTime 6 = .ok (.iadd, 1) := by decide +kernel
theorem dX4_moveTime_7 : decode cX4_moveTime 7 = .ok (.putfield 129, 3) := by decide +kernel
theorem dX4_moveTime_10 : decode cX4_moveTime 10 = .ok (.aload_n 0, 1) := by decide +kernel
theorem dX4_moveTime_11 : decode cX4_moveTime 11 = .ok (.bipush (-6), 2) := by decide +kernel
theorem dX4_moveTime_13 : decode cX4_moveTime 13 = .ok (.putfield 56, 3) := by decide +kernel
theorem dX4_moveTime_16 : decode cX4_moveTime 16 = .ok (.aload_n 0, 1) := by decide +kernel
theorem dX4_moveTime_17 : decode cX4_moveTime 17 = .ok (.getfield 45, 3) := by decide +kernel
theorem dX4_moveTime_20 : decode cX4_moveTime 20 = .ok (.getfield 162, 3) := by decide +kernel
theorem dX4_moveTime_23 : decode cX4_moveTime 23 = .ok (.bipush (-6), 2) := by decide +kernel
theorem dX4_moveTime_25 : decode cX4_moveTime 25 = .ok (.if_icmp .eq 40, 3) := by decide +kernel
theorem dX4_moveTime_28 : decode cX4_moveTime 28 = .ok (.aload_n 0, 1) := by decide +kernel
theorem dX4_moveTime_29 : decode cX4_moveTime 29 = .ok (.dup, 1) := by decide +kernel
theorem dX4_moveTime_30 : decode cX4_moveTime 30 = .ok (.getfield 165, 3) := by decide +kernel
theorem dX4_moveTime_33 : decode cX4_moveTime 33 = .ok (.iconst 1, 1) := by decide +kernel
theorem dX4_moveTime_34 : decode cX4_moveTime 34 = .ok (.iadd, 1) := by decide +kernel
theorem dX4_moveTime_35 : decode cX4_moveTime 35 = .ok (.putfield 165, 3) := by decide +kernel
theorem dX4_moveTime_38 : decode cX4_moveTime 38 = .ok (.aload_n 0, 1) := by decide +kernel
theorem dX4_moveTime_39 : decode cX4_moveTime 39 = .ok (.getfield 45, 3) := by decide +kernel
theorem dX4_moveTime_42 : decode cX4_moveTime 42 = .ok (.dup, 1) := by decide +kernel
theorem dX4_moveTime_43 : decode cX4_moveTime 43 = .ok (.getfield 168, 3) := by decide +kernel
theorem dX4_moveTime_46 : decode cX4_moveTime 46 = .ok (.iconst 1, 1) := by decide +kernel
theorem dX4_moveTime_47 : decode cX4_moveTime 47 = .ok (.isub, 1) := by decide +kernel
theorem dX4_moveTime_48 : decode cX4_moveTime 48 = .ok (.putfield 168, 3) := by decide +kernel
theorem dX4_moveTime_51 : decode cX4_moveTime 51 = .ok (.aload_n 0, 1) := by decide +kernel
theorem dX4_moveTime_52 : decode cX4_moveTime 52 = .ok (.getfield 45, 3) := by decide +kernel
theorem dX4_moveTime_55 : decode cX4_moveTime 55 = .ok (.getfield 168, 3) := by decide +kernel
theorem dX4_moveTime_58 : decode cX4_moveTime 58 = .ok (.ifCond .gt 7, 3) := by decide +kernel
theorem dX4_moveTime_61 : decode cX4_moveTime 61 = .ok (.aload_n 0, 1) := by decide +kernel
theorem dX4_moveTime_62 : decode cX4_moveTime 62 = .ok (.invokevirtual 171, 3) := by decide +kernel
theorem dX4_moveTime_65 : decode cX4_moveTime 65 = .ok (.aload_n 0, 1) := by decide +kernel
theorem dX4_moveTime_66 : decode cX4_moveTime 66 = .ok (.getfield 174, 3) := by decide +kernel
theorem dX4_moveTime_69 : decode cX4_moveTime 69 = .ok (.ifCond .le 7, 3) := by decide +kernel
theorem dX4_moveTime_72 : decode cX4_moveTime 72 = .ok (.aload_n 0, 1) := by decide +kernel
theorem dX4_moveTime_73 : decode cX4_moveTime 73 = .ok (.invokevirtual 177, 3) := by decide +kernel
theorem dX4_moveTime_76 : decode cX4_moveTime 76 = .ok (.return_, 1) := by decide +kernel
theorem dX4_finishPiece_0 : decode cX4_finishPiece 0 = .ok (.aload_n 0, 1) := by decide +kernel
theorem dX4_finishPiece_1 : decode cX4_finishPiece 1 = .ok (.getfield 45, 3) := by decide +kernel
theorem dX4_finishPiece_4 : decode cX4_finishPiece 4 = .ok (.getfield 162, 3) := by decide +kernel
theorem dX4_finishPiece_7 : decode cX4_finishPiece 7 = .ok (.istore_n 1, 1) := by decide +kernel
theorem dX4_finishPiece_8 : decode cX4_finishPiece 8 = .ok (.aload_n 0, 1) := by decide +kernel
theorem dX4_finishPiece_9 : decode cX4_finishPiece 9 = .ok (.iload_n 1, 1) := by decide +kernel
theorem dX4_finishPiece_10 : decode cX4_finishPiece 10 = .ok (.invokevirtual 91, 3) := by decide +kernel
theorem dX4_finishPiece_13 : decode cX4_finishPiece 13 = .ok (.astore_n 2, 1) := by decide +kernel
theorem dX4_finishPiece_14 : decode cX4_finishPiece 14 = .ok (.aload_n 0, 1) := by decide +kernel
theorem dX4_finishPiece_15 : decode cX4_finishPiece 15 = .ok (.getfield 26, 3) := by decide +kernel
theorem dX4_finishPiece_18 : decode cX4_finishPiece 18 = .ok (.aload_n 2, 1) := by decide +kernel
theorem dX4_finishPiece_19 : decode cX4_finishPiece 19 = .ok (.getfield 180, 3) := by decide +kernel
theorem dX4_finishPiece_22 : decode cX4_finishPiece 22 = .ok (.aaload, 1) := by decide +kernel
theorem dX4_finishPiece_23 : decode cX4_finishPiece 23 = .ok (.astore_n 3, 1) := by decide +kernel
theorem dX4_finishPiece_24 : decode cX4_finishPiece 24 = .ok (.aload_n 2, 1) := by decide +kernel
theorem dX4_finishPiece_25 : decode cX4_finishPiece 25 = .ok (.dup, 1) := by decide +kernel
theorem dX4_finishPiece_26 : decode cX4_finishPiece 26 = .ok (.getfield 108, 3) := by decide +kernel
theorem dX4_finishPiece_29 : decode cX4_finishPiece 29 = .ok (.aload_n 0, 1) := by decide +kernel
theorem dX4_finishPiece_30 : decode cX4_finishPiece 30 = .ok (.getfield 45, 3) := by decide +kernel
theorem dX4_finishPiece_33 : decode cX4_finishPiece 33 = .ok (.getfield 183, 3) := by decide +kernel
theorem dX4_finishPiece_36 : decode cX4_finishPiece 36 = .ok (.iadd, 1) := by decide +kernel
theorem dX4_finishPiece_37 : decode cX4_finishPiece 37 = .ok (.putfield 108, 3) := by decide +kernel
theorem dX4_finishPiece_40 : decode cX4_finishPiece 40 = .ok (.aload_n 2, 1) := by decide +kernel
theorem dX4_finishPiece_41 : decode cX4_finishPiece 41 = .ok (.dup, 1) := by decide +kernel
theorem dX4_finishPiece_42 : decode cX4_finishPiece 42 = .ok (.getfield 186, 3) := by decide +kernel
theorem dX4_finishPiece_45 : decode cX4_finishPiece 45 = .ok (.iconst 1, 1) := by decide +kernel
theorem dX4_finishPiece_46 : decode cX4_finishPiece 46 = .ok (.iadd, 1) := by decide +kernel
theorem dX4_finishPiece_47 : decode cX4_finishPiece 47 = .ok (.putfield 186, 3) := by decide +kernel
theorem dX4_finishPiece_50 : decode cX4_finishPiece 50 = .ok (.aload_n 2, 1) := by decide +kernel
theorem dX4_finishPiece_51 : decode cX4_finishPiece 51 = .ok (.dup, 1) := by decide +kernel
theorem dX4_finishPiece_52 : decode cX4_finishPiece 52 = .ok (.getfield 188, 3) := by decide +kernel
theorem dX4_finishPiece_55 : decode cX4_finishPiece 55 = .ok (.aload_n 0, 1) := by decide +kernel
theorem dX4_finishPiece_56 : decode cX4_finishPiece 56 = .ok (.getfield 45, 3) := by decide +kernel
theorem dX4_finishPiece_59 : decode cX4_finishPiece 59 = .ok (.getfield 191, 3) := by decide +kernel
theorem dX4_finishPiece_62 : decode cX4_finishPiece 62 = .ok (.ifCond .eq 7, 3) := by decide +kernel
theorem dX4_finishPiece_65 : decode cX4_finishPiece 65 = .ok (.iconst 1, 1) := by decide +kernel
theorem dX4_finishPiece_66 : decode cX4_finishPiece 66 = .ok (.goto 4, 3) := by decide +kernel
theorem dX4_finishPiece_69 : decode cX4_finishPiece 69 = .ok (.iconst 0, 1) := by decide +kernel
theorem dX4_finishPiece_70 : decode cX4_finishPiece 70 = .ok (.iadd, 1) := by decide +kernel
theorem dX4_finishPiece_71 : decode cX4_finishPiece 71 = .ok (.putfield 188, 3) := by decide +kernel
theorem dX4_finishPiece_74 : decode cX4_finishPiece 74 = .ok (.aload_n 2, 1) := by decide +kernel
theorem dX4_finishPiece_75 : decode cX4_finishPiece 75 = .ok (.aload_n 0, 1) := by decide +kernel
theorem dX4_finishPiece_76 : decode cX4_finishPiece 76 = .ok (.getfield 129, 3) := by decide +kernel
theorem dX4_finishPiece_79 : decode cX4_finishPiece 79 = .ok (.putfield 195, 3) := by decide +kernel
theorem dX4_finishPiece_82 : decode cX4_finishPiece 82 = .ok (.aload_n 3, 1) := by decide +kernel
theorem dX4_finishPiece_83 : decode cX4_finishPiece 83 = .ok (.dup, 1) := by decide +kernel
theorem dX4_finishPiece_84 : decode cX4_finishPiece 84 = .ok (.getfield 198, 3) := by decide +kernel
theorem dX4_finishPiece_87 : decode cX4_finishPiece 87 = .ok (.aload_n 0, 1) := by decide +kernel
theorem dX4_finishPiece_88 : decode cX4_finishPiece 88 = .ok (.getfield 45, 3) := by decide +kernel
theorem dX4_finishPiece_91 : decode cX4_finishPiece 91 = .ok (.getfield 183, 3) := by decide +kernel
theorem dX4_finishPiece_94 : decode cX4_finishPiece 94 = .ok (.iadd, 1) := by decide +kernel
theorem dX4_finishPiece_95 : decode cX4_finishPiece 95 = .ok (.putfield 198, 3) := by decide +kernel
theorem dX4_finishPiece_98 : decode cX4_finishPiece 98 = .ok (.aload_n 0, 1) := by decide +kernel
theorem dX4_finishPiece_99 : decode cX4_finishPiece 99 = .ok (.invokevirtual 199, 3) := by decide +kernel
theorem dX4_finishPiece_102 : decode cX4_finishPiece 102 = .ok (.aload_n 2, 1) := by decide +kernel
theorem dX4_finishPiece_103 : decode cX4_finishPiece 103 = .ok (.invokevirtual 95, 3) := by decide +kernel
theorem dX4_finishPiece_106 : decode cX4_finishPiece 106 = .ok (.ifCond .le 9, 3) := by decide +kernel
theorem dX4_finishPiece_109 : decode cX4_finishPiece 109 = .ok (.aload_n 2, 1) := by decide +kernel
theorem dX4_finishPiece_110 : decode cX4_finishPiece 110 = .ok (.iconst 0, 1) := by decide +kernel
theorem dX4_finishPiece_111 : decode cX4_finishPiece 111 = .ok (.putfield 120, 3) := by decide +kernel
theorem dX4_finishPiece_114 : decode cX4_finishPiece 114 = .ok (.return_, 1) := by decide +kernel
theorem dX4_finishPiece_115 : decode cX4_finishPiece 115 = .ok (.aload_n 3, 1) := by decide +kernel
theorem dX4_finishPiece_116 : decode cX4_finishPiece 116 = .ok (.iload_n 1, 1) := by decide +kernel
theorem dX4_finishPiece_117 : decode cX4_finishPiece 117 = .ok (.invokevirtual 202, 3) := by decide +kernel
theorem dX4_finishPiece_120 : decode cX4_finishPiece 120 = .ok (.aload_n 2, 1) := by decide +kernel
theorem dX4_finishPiece_121 : decode cX4_finishPiece 121 = .ok (.getfield 186, 3) := by decide +kernel
theorem dX4_finishPiece_124 : decode cX4_finishPiece 124 = .ok (.iconst 1, 1) := by decide +kernel
theorem dX4_finishPiece_125 : decode cX4_finishPiece 125 = .ok (.if_icmp .le 30, 3) := by decide +kernel
theorem dX4_finishPiece_128 : decode cX4_finishPiece 128 = .ok (.aload_n 0, 1) := by decide +kernel
theorem dX4_finishPiece_129 : decode cX4_finishPiece 129 = .ok (.getfield 13, 3) := by decide +kernel
theorem dX4_finishPiece_132 : decode cX4_finishPiece 132 = .ok (.iconst 1, 1) := by decide +kernel
theorem dX4_finishPiece_133 : decode cX4_finishPiece 133 = .ok (.iaload, 1) := by decide +kernel
theorem dX4_finishPiece_134 : decode cX4_finishPiece 134 = .ok (.ifCond .le 21, 3) := by decide +kernel
theorem dX4_finishPiece_137 : decode cX4_finishPiece 137 = .ok (.aload_n 2, 1) := by decide +kernel
theorem dX4_finishPiece_138 : decode cX4_finishPiece 138 = .ok (.iconst 2, 1) := by decide +kernel
theorem dX4_finishPiece_139 : decode cX4_finishPiece 139 = .ok (.putfield 120, 3) := by decide +kernel
theorem dX4_finishPiece_142 : decode cX4_finishPiece 142 = .ok (.aload_n 0, 1) := by decide +kernel
theorem dX4_finishPiece_143 : decode cX4_finishPiece 143 = .ok (.dup, 1) := by decide +kernel
theorem dX4_finishPiece_144 : decode cX4_finishPiece 144 = .ok (.getfield 174, 3) := by decide +kernel
theorem dX4_finishPiece_147 : decode cX4_finishPiece 147 = .ok (.iconst 1, 1) := by decide +kernel
theorem dX4_finishPiece_148 : decode cX4_finishPiece 148 = .ok (.iadd, 1) := by decide +kernel
theorem dX4_finishPiece_149 : decode cX4_finishPiece 149 = .ok (.putfield 174, 3) := by decide +kernel
theorem dX4_finishPiece_152 : decode cX4_finishPiece 152 = .ok (.goto 8, 3) := by decide +kernel
theorem dX4_finishPiece_155 : decode cX4_finishPiece 155 = .ok (.aload_n 0, 1) := by decide +kernel
theorem dX4_finishPiece_156 : decode cX4_finishPiece 156 = .ok (.iload_n 1, 1) := by decide +kernel
theorem dX4_finishPiece_157 : decode cX4_finishPiece 157 = .ok (.invokevirtual 205, 3) := by decide +kernel
theorem dX4_finishPiece_160 : decode cX4_finishPiece 160 = .ok (.return_, 1) := by decide +kernel
theorem dX4_recordPiece_0 : decode cX4_recordPiece 0 = .ok (.aload_n 0, 1) := by decide +kernel
theorem dX4_recordPiece_1 : decode cX4_recordPiece 1 = .ok (.dup, 1) := by decide +kernel
theorem dX4_recordPiece_2 : decode cX4_recordPiece 2 = .ok (.getfield 208, 3) := by decide +kernel
theorem dX4_recordPiece_5 : decode cX4_recordPiece 5 = .ok (.aload_n 0, 1) := by decide +kernel
theorem dX4_recordPiece_6 : decode cX4_recordPiece 6 = .ok (.getfield 45, 3) := by decide +kernel
theorem dX4_recordPiece_9 : decode cX4_recordPiece 9 = .ok (.getfield 211, 3) := by decide +kernel
theorem dX4_recordPiece_12 : decode cX4_recordPiece 12 = .ok (.iadd, 1) := by decide +kernel
theorem dX4_recordPiece_13 : decode cX4_recordPiece 13 = .ok (.putfield 208, 3) := by decide +kernel
theorem dX4_recordPiece_16 : decode cX4_recordPiece 16 = .ok (.aload_n 0, 1) := by decide +kernel
theorem dX4_recordPiece_17 : decode cX4_recordPiece 17 = .ok (.getfield 45, 3) := by decide +kernel
theorem dX4_recordPiece_20 : decode cX4_recordPiece 20 = .ok (.aload_n 0, 1) := by decide +kernel
theorem dX4_recordPiece_21 : decode cX4_recordPiece 21 = .ok (.getfield 129, 3) := by decide +kernel
theorem dX4_recordPiece_24 : decode cX4_recordPiece 24 = .ok (.putfield 214, 3) := by decide +kernel
theorem dX4_recordPiece_27 : decode cX4_recordPiece 27 = .ok (.aload_n 0, 1) := by decide +kernel
theorem dX4_recordPiece_28 : decode cX4_recordPiece 28 = .ok (.aload_n 0, 1) := by decide +kernel
theorem dX4_recordPiece_29 : decode cX4_recordPiece 29 = .ok (.getfield 79, 3) := by decide +kernel
theorem dX4_recordPiece_32 : decode cX4_recordPiece 32 = .ok (.invokevirtual 217, 3) := by decide +kernel
theorem dX4_recordPiece_35 : decode cX4_recordPiece 35 = .ok (.aload_n 0, 1) := by decide +kernel
theorem dX4_recordPiece_36 : decode cX4_recordPiece 36 = .ok (.getfield 45, 3) := by decide +kernel
theorem dX4_recordPiece_39 : decode cX4_recordPiece 39 = .ok (.invokevirtual 221, 3) := by decide +kernel
theorem dX4_recordPiece_42 : decode cX4_recordPiece 42 = .ok (.aload_n 0, 1) := by decide +kernel
theorem dX4_recordPiece_43 : decode cX4_recordPiece 43 = .ok (.dup, 1) := by decide +kernel
theorem dX4_recordPiece_44 : decode cX4_recordPiece 44 = .ok (.getfield 79, 3) := by decide +kernel
theorem dX4_recordPiece_47 : decode cX4_recordPiece 47 = .ok (.iconst 1, 1) := by decide +kernel
theorem dX4_recordPiece_48 : decode cX4_recordPiece 48 = .ok (.iadd, 1) := by decide +kernel
theorem dX4_recordPiece_49 : decode cX4_recordPiece 49 = .ok (.putfield 79, 3) := by decide +kernel
theorem dX4_recordPiece_52 : decode cX4_recordPiece 52 = .ok (.aload_n 0, 1) := by decide +kernel
theorem dX4_recordPiece_53 : decode cX4_recordPiece 53 = .ok (.getfield 45, 3) := by decide +kernel
theorem dX4_recordPiece_56 : decode cX4_recordPiece 56 = .ok (.invokevirtual 225, 3) := by decide +kernel
theorem dX4_recordPiece_59 : decode cX4_recordPiece 59 = .ok (.return_, 1) := by decide +kernel
theorem dX4_deliver_0 : decode cX4_deliver 0 = .ok (.aload_n 0, 1) := by decide +kernel
theorem dX4_deliver_1 : decode cX4_deliver 1 = .ok (.iload_n 1, 1) := by decide +kernel
theorem dX4_deliver_2 : decode cX4_deliver 2 = .ok (.invokevirtual 91, 3) := by decide +kernel
theorem dX4_deliver_5 : decode cX4_deliver 5 = .ok (.astore_n 2, 1) := by decide +kernel
theorem dX4_deliver_6 : decode cX4_deliver 6 = .ok (.aload_n 2, 1) := by decide +kernel
theorem dX4_deliver_7 : decode cX4_deliver 7 = .ok (.iconst 3, 1) := by decide +kernel
theorem dX4_deliver_8 : decode cX4_deliver 8 = .ok (.putfield 120, 3) := by decide +kernel
theorem dX4_deliver_11 : decode cX4_deliver 11 = .ok (.aload_n 2, 1) := by decide +kernel
theorem dX4_deliver_12 : decode cX4_deliver 12 = .ok (.aload_n 0, 1) := by decide +kernel
theorem dX4_deliver_13 : decode cX4_deliver 13 = .ok (.getfield 129, 3) := by decide +kernel
theorem dX4_deliver_16 : decode cX4_deliver 16 = .ok (.putfield 228, 3) := by decide +kernel
theorem dX4_deliver_19 : decode cX4_deliver 19 = .ok (.aload_n 0, 1) := by decide +kernel
theorem dX4_deliver_20 : decode cX4_deliver 20 = .ok (.getfield 26, 3) := by decide +kernel
theorem dX4_deliver_23 : decode cX4_deliver 23 = .ok (.aload_n 2, 1) := by decide +kernel
theorem dX4_deliver_24 : decode cX4_deliver 24 = .ok (.getfield 180, 3) := by decide +kernel
theorem dX4_deliver_27 : decode cX4_deliver 27 = .ok (.aaload, 1) := by decide +kernel
theorem dX4_deliver_28 : decode cX4_deliver 28 = .ok (.aload_n 2, 1) := by decide +kernel
theorem dX4_deliver_29 : decode cX4_deliver 29 = .ok (.invokevirtual 231, 3) := by decide +kernel
theorem dX4_deliver_32 : decode cX4_deliver 32 = .ok (.aload_n 2, 1) := by decide +kernel
theorem dX4_deliver_33 : decode cX4_deliver 33 = .ok (.invokevirtual 234, 3) := by decide +kernel
theorem dX4_deliver_36 : decode cX4_deliver 36 = .ok (.invokevirtual 238, 3) := by decide +kernel
theorem dX4_deliver_39 : decode cX4_deliver 39 = .ok (.aload_n 0, 1) := by decide +kernel
theorem dX4_deliver_40 : decode cX4_deliver 40 = .ok (.getfield 56, 3) := by decide +kernel
theorem dX4_deliver_43 : decode cX4_deliver 43 = .ok (.bipush (-6), 2) := by decide +kernel
theorem dX4_deliver_45 : decode cX4_deliver 45 = .ok (.if_icmp .eq 11, 3) := by decide +kernel
theorem dX4_deliver_48 : decode cX4_deliver 48 = .ok (.iload_n 1, 1) := by decide +kernel
theorem dX4_deliver_49 : decode cX4_deliver 49 = .ok (.aload_n 0, 1) := by decide +kernel
theorem dX4_deliver_50 : decode cX4_deliver 50 = .ok (.getfield 56, 3) := by decide +kernel
theorem dX4_deliver_53 : decode cX4_deliver 53 = .ok (.if_icmp .ge 8, 3) := by decide +kernel
theorem dX4_deliver_56 : decode cX4_deliver 56 = .ok (.aload_n 0, 1) := by decide +kernel
theorem dX4_deliver_57 : decode cX4_deliver 57 = .ok (.iload_n 1, 1) := by decide +kernel
theorem dX4_deliver_58 : decode cX4_deliver 58 = .ok (.putfield 56, 3) := by decide +kernel
theorem dX4_deliver_61 : decode cX4_deliver 61 = .ok (.return_, 1) := by decide +kernel
theorem dX4_deliverJoined_0 : decode cX4_deliverJoined 0 = .ok (.aload_n 0, 1) := by decide +kernel
theorem dX4_deliverJoined_1 : decode cX4_deliverJoined 1 = .ok (.invokevirtual 72, 3) := by decide +kernel
theorem dX4_deliverJoined_4 : decode cX4_deliverJoined 4 = .ok (.istore_n 1, 1) := by decide +kernel
theorem dX4_deliverJoined_5 : decode cX4_deliverJoined 5 = .ok (.iload_n 1, 1) := by decide +kernel
theorem dX4_deliverJoined_6 : decode cX4_deliverJoined 6 = .ok (.aload_n 0, 1) := by decide +kernel
theorem dX4_deliverJoined_7 : decode cX4_deliverJoined 7 = .ok (.getfield 63, 3) := by decide +kernel
theorem dX4_deliverJoined_10 : decode cX4_deliverJoined 10 = .ok (.if_icmp .ge 56, 3) := by decide +kernel
theorem dX4_deliverJoined_13 : decode cX4_deliverJoined 13 = .ok (.aload_n 0, 1) := by decide +kernel
theorem dX4_deliverJoined_14 : decode cX4_deliverJoined 14 = .ok (.iload_n 1, 1) := by decide +kernel
theorem dX4_deliverJoined_15 : decode cX4_deliverJoined 15 = .ok (.invokevirtual 91, 3) := by decide +kernel
theorem dX4_deliverJoined_18 : decode cX4_deliverJoined 18 = .ok (.astore_n 2, 1) := by decide +kernel
theorem dX4_deliverJoined_19 : decode cX4_deliverJoined 19 = .ok (.aload_n 2, 1) := by decide +kernel
theorem dX4_deliverJoined_20 : decode cX4_deliverJoined 20 = .ok (.getfield 120, 3) := by decide +kernel
theorem dX4_deliverJoined_23 : decode cX4_deliverJoined 23 = .ok (.iconst 2, 1) := by decide +kernel
theorem dX4_deliverJoined_24 : decode cX4_deliverJoined 24 = .ok (.if_icmp .ne 36, 3) := by decide +kernel
theorem dX4_deliverJoined_27 : decode cX4_deliverJoined 27 = .ok (.aload_n 0, 1) := by decide +kernel
theorem dX4_deliverJoined_28 : decode cX4_deliverJoined 28 = .ok (.getfield 129, 3) := by decide +kernel
theorem dX4_deliverJoined_31 : decode cX4_deliverJoined 31 = .ok (.aload_n 2, 1) := by decide +kernel
theorem dX4_deliverJoined_32 : decode cX4_deliverJoined 32 = .ok (.getfield 195, 3) := by decide +kernel
theorem dX4_deliverJoined_35 : decode cX4_deliverJoined 35 = .ok (.isub, 1) := by decide +kernel
theorem dX4_deliverJoined_36 : decode cX4_deliverJoined 36 = .ok (.aload_n 0, 1) := by decide +kernel
theorem dX4_deliverJoined_37 : decode cX4_deliverJoined 37 = .ok (.getfield 13, 3) := by decide +kernel
theorem dX4_deliverJoined_40 : decode cX4_deliverJoined 40 = .ok (.iconst 1, 1) := by decide +kernel
theorem dX4_deliverJoined_41 : decode cX4_deliverJoined 41 = .ok (.iaload, 1) := by decide +kernel
theorem dX4_deliverJoined_42 : decode cX4_deliverJoined 42 = .ok (.if_icmp .lt 18, 3) := by decide +kernel
theorem dX4_deliverJoined_45 : decode cX4_deliverJoined 45 = .ok (.aload_n 0, 1) := by decide +kernel
theorem dX4_deliverJoined_46 : decode cX4_deliverJoined 46 = .ok (.dup, 1) := by decide +kernel
theorem dX4_deliverJoined_47 : decode cX4_deliverJoined 47 = .ok (.getfield 174, 3) := by decide +kernel
theorem dX4_deliverJoined_50 : decode cX4_deliverJoined 50 = .ok (.iconst 1, 1) := by decide +kernel
theorem dX4_deliverJoined_51 : decode cX4_deliverJoined 51 = .ok (.isub, 1) := by decide +kernel
theorem dX4_deliverJoined_52 : decode cX4_deliverJoined 52 = .ok (.putfield 174, 3) := by decide +kernel
theorem dX4_deliverJoined_55 : decode cX4_deliverJoined 55 = .ok (.aload_n 0, 1) := by decide +kernel
theorem dX4_deliverJoined_56 : decode cX4_deliverJoined 56 = .ok (.iload_n 1, 1) := by decide +kernel
theorem dX4_deliverJoined_57 : decode cX4_deliverJoined 57 = .ok (.invokevirtual 205, 3) := by decide +kernel
theorem dX4_deliverJoined_60 : decode cX4_deliverJoined 60 = .ok (.iinc 1 1, 3) := by decide +kernel
theorem dX4_deliverJoined_63 : decode cX4_deliverJoined 63 = .ok (.goto (-58), 3) := by decide +kernel
theorem dX4_deliverJoined_66 : decode cX4_deliverJoined 66 = .ok (.return_, 1) := by decide +kernel
theorem dX4_drainFluid_0 : decode cX4_drainFluid 0 = .ok (.iconst 0, 1) := by decide +kernel
theorem dX4_drainFluid_1 : decode cX4_drainFluid 1 = .ok (.istore_n 1, 1) := by decide +kernel
theorem dX4_drainFluid_2 : decode cX4_drainFluid 2 = .ok (.iconst 0, 1) := by decide +kernel
theorem dX4_drainFluid_3 : decode cX4_drainFluid 3 = .ok (.istore_n 2, 1) := by decide +kernel
theorem dX4_drainFluid_4 : decode cX4_drainFluid 4 = .ok (.iload_n 2, 1) := by decide +kernel
theorem dX4_drainFluid_5 : decode cX4_drainFluid 5 = .ok (.aload_n 0, 1) := by decide +kernel
theorem dX4_drainFluid_6 : decode cX4_drainFluid 6 = .ok (.getfield 60, 3) := by decide +kernel
theorem dX4_drainFluid_9 : decode cX4_drainFluid 9 = .ok (.if_icmp .ge 37, 3) := by decide +kernel
theorem dX4_drainFluid_12 : decode cX4_drainFluid 12 = .ok (.aload_n 0, 1) := by decide +kernel
theorem dX4_drainFluid_13 : decode cX4_drainFluid 13 = .ok (.getfield 26, 3) := by decide +kernel
theorem dX4_drainFluid_16 : decode cX4_drainFluid 16 = .ok (.iload_n 2, 1) := by decide +kernel
theorem dX4_drainFluid_17 : decode cX4_drainFluid 17 = .ok (.aaload, 1) := by decide +kernel
theorem dX4_drainFluid_18 : decode cX4_drainFluid 18 = .ok (.getfield 135, 3) := by decide +kernel
theorem dX4_drainFluid_21 : decode cX4_drainFluid 21 = .ok (.lconst 0, 1) := by decide +kernel
theorem dX4_drainFluid_22 : decode cX4_drainFluid 22 = .ok (.lcmp, 1) := by decide +kernel
theorem dX4_drainFluid_23 : decode cX4_drainFluid 23 = .ok (.ifCond .le 17, 3) := by decide +kernel
theorem dX4_drainFluid_26 : decode cX4_drainFluid 26 = .ok (.iload_n 1, 1) := by decide +kernel
theorem dX4_drainFluid_27 : decode cX4_drainFluid 27 = .ok (.aload_n 0, 1) := by decide +kernel
theorem dX4_drainFluid_28 : decode cX4_drainFluid 28 = .ok (.getfield 26, 3) := by decide +kernel
theorem dX4_drainFluid_31 : decode cX4_drainFluid 31 = .ok (.iload_n 2, 1) := by decide +kernel
theorem dX4_drainFluid_32 : decode cX4_drainFluid 32 = .ok (.aaload, 1) := by decide +kernel
theorem dX4_drainFluid_33 : decode cX4_drainFluid 33 = .ok (.getfield 119, 3) := by decide +kernel
theorem dX4_drainFluid_36 : decode cX4_drainFluid 36 = .ok (.iconst 0, 1) := by decide +kernel
theorem dX4_drainFluid_37 : decode cX4_drainFluid 37 = .ok (.iaload, 1) := by decide +kernel
theorem dX4_drainFluid_38 : decode cX4_drainFluid 38 = .ok (.iadd, 1) := by decide +kernel
theorem dX4_drainFluid_39 : decode cX4_drainFluid 39 = .ok (.istore_n 1, 1) := by decide +kernel
theorem dX4_drainFluid_40 : decode cX4_drainFluid 40 = .ok (.iinc 2 1, 3) := by decide +kernel
theorem dX4_drainFluid_43 : decode cX4_drainFluid 43 = .ok (.goto (-39), 3) := by decide +kernel
theorem dX4_drainFluid_46 : decode cX4_drainFluid 46 = .ok (.iload_n 1, 1) := by decide +kernel
theorem dX4_drainFluid_47 : decode cX4_drainFluid 47 = .ok (.ifCond .ne 4, 3) := by decide +kernel
theorem dX4_drainFluid_50 : decode cX4_drainFluid 50 = .ok (.return_, 1) := by decide +kernel
theorem dX4_drainFluid_51 : decode cX4_drainFluid 51 = .ok (.iconst 0, 1) := by decide +kernel
theorem dX4_drainFluid_52 : decode cX4_drainFluid 52 = .ok (.istore_n 2, 1) := by decide +kernel
theorem dX4_drainFluid_53 : decode cX4_drainFluid 53 = .ok (.iload_n 2, 1) := by decide +kernel
theorem dX4_drainFluid_54 : decode cX4_drainFluid 54 = .ok (.aload_n 0, 1) := by decide +kernel
theorem dX4_drainFluid_55 : decode cX4_drainFluid 55 = .ok (.getfield 60, 3) := by decide +kernel
theorem dX4_drainFluid_58 : decode cX4_drainFluid 58 = .ok (.if_icmp .ge 33, 3) := by decide +kernel
theorem dX4_drainFluid_61 : decode cX4_drainFluid 61 = .ok (.aload_n 0, 1) := by decide +kernel
theorem dX4_drainFluid_62 : decode cX4_drainFluid 62 = .ok (.getfield 26, 3) := by decide +kernel
theorem dX4_drainFluid_65 : decode cX4_drainFluid 65 = .ok (.iload_n 2, 1) := by decide +kernel
theorem dX4_drainFluid_66 : decode cX4_drainFluid 66 = .ok (.aaload, 1) := by decide +kernel
theorem dX4_drainFluid_67 : decode cX4_drainFluid 67 = .ok (.getfield 135, 3) := by decide +kernel
theorem dX4_drainFluid_70 : decode cX4_drainFluid 70 = .ok (.lconst 0, 1) := by decide +kernel
theorem dX4_drainFluid_71 : decode cX4_drainFluid 71 = .ok (.lcmp, 1) := by decide +kernel
theorem dX4_drainFluid_72 : decode cX4_drainFluid 72 = .ok (.ifCond .le 13, 3) := by decide +kernel
theorem dX4_drainFluid_75 : decode cX4_drainFluid 75 = .ok (.aload_n 0, 1) := by decide +kernel
theorem dX4_drainFluid_76 : decode cX4_drainFluid 76 = .ok (.getfield 26, 3) := by decide +kernel
theorem dX4_drainFluid_79 : decode cX4_drainFluid 79 = .ok (.iload_n 2, 1) := by decide +kernel
theorem dX4_drainFluid_80 : decode cX4_drainFluid 80 = .ok (.aaload, 1) := by decide +kernel
theorem dX4_drainFluid_81 : decode cX4_drainFluid 81 = .ok (.iload_n 1, 1) := by decide +kernel
theorem dX4_drainFluid_82 : decode cX4_drainFluid 82 = .ok (.invokevirtual 242, 3) := by decide +kernel
theorem dX4_drainFluid_85 : decode cX4_drainFluid 85 = .ok (.iinc 2 1, 3) := by decide +kernel
theorem dX4_drainFluid_88 : decode cX4_drainFluid 88 = .ok (.goto (-35), 3) := by decide +kernel
theorem dX4_drainFluid_91 : decode cX4_drainFluid 91 = .ok (.return_, 1) := by decide +kernel
theorem dX4_beginPieceIfFree_0 : decode cX4_beginPieceIfFree 0 = .ok (.aload_n 0, 1) := by decide +kernel
theorem dX4_beginPieceIfFree_1 : decode cX4_beginPieceIfFree 1 = .ok (.getfield 45, 3) := by decide +kernel
theorem dX4_beginPieceIfFree_4 : decode cX4_beginPieceIfFree 4 = .ok (.getfield 162, 3) := by decide +kernel
theorem dX4_beginPieceIfFree_7 : decode cX4_beginPieceIfFree 7 = .ok (.bipush (-6), 2) := by decide +kernel
theorem dX4_beginPieceIfFree_9 : decode cX4_beginPieceIfFree 9 = .ok (.if_icmp .eq 4, 3) := by decide +kernel
theorem dX4_beginPieceIfFree_12 : decode cX4_beginPieceIfFree 12 = .ok (.return_, 1) := by decide +kernel
theorem dX4_beginPieceIfFree_13 : decode cX4_beginPieceIfFree 13 = .ok (.aload_n 0, 1) := by decide +kernel
theorem dX4_beginPieceIfFree_14 : decode cX4_beginPieceIfFree 14 = .ok (.invokevirtual 245, 3) := by decide +kernel
theorem dX4_beginPieceIfFree_17 : decode cX4_beginPieceIfFree 17 = .ok (.istore_n 1, 1) := by decide +kernel
theorem dX4_beginPieceIfFree_18 : decode cX4_beginPieceIfFree 18 = .ok (.iload_n 1, 1) := by decide +kernel
theorem dX4_beginPieceIfFree_19 : decode cX4_beginPieceIfFree 19 = .ok (.bipush (-6), 2) := by decide +kernel
theorem dX4_beginPieceIfFree_21 : decode cX4_beginPieceIfFree 21 = .ok (.if_icmp .ne 10, 3) := by decide +kernel
theorem dX4_beginPieceIfFree_24 : decode cX4_beginPieceIfFree 24 = .ok (.aload_n 0, 1) := by decide +kernel
theorem dX4_beginPieceIfFree_25 : decode cX4_beginPieceIfFree 25 = .ok (.invokevirtual 248, 3) := by decide +kernel
theorem dX4_beginPieceIfFree_28 : decode cX4_beginPieceIfFree 28 = .ok (.goto 4, 3) := by decide +kernel
theorem dX4_beginPieceIfFree_31 : decode cX4_beginPieceIfFree 31 = .ok (.iload_n 1, 1) := by decide +kernel
theorem dX4_beginPieceIfFree_32 : decode cX4_beginPieceIfFree 32 = .ok (.istore_n 2, 1) := by decide +kernel
theorem dX4_beginPieceIfFree_33 : decode cX4_beginPieceIfFree 33 = .ok (.iload_n 2, 1) := by decide +kernel
theorem dX4_beginPieceIfFree_34 : decode cX4_beginPieceIfFree 34 = .ok (.bipush (-6), 2) := by decide +kernel
theorem dX4_beginPieceIfFree_36 : decode cX4_beginPieceIfFree 36 = .ok (.if_icmp .ne 4, 3) := by decide +kernel
theorem dX4_beginPieceIfFree_39 : decode cX4_beginPieceIfFree 39 = .ok (.return_, 1) := by decide +kernel
theorem dX4_beginPieceIfFree_40 : decode cX4_beginPieceIfFree 40 = .ok (.iload_n 1, 1) := by decide +kernel
theorem dX4_beginPieceIfFree_41 : decode cX4_beginPieceIfFree 41 = .ok (.bipush (-6), 2) := by decide +kernel
theorem dX4_beginPieceIfFree_43 : decode cX4_beginPieceIfFree 43 = .ok (.if_icmp .ne 24, 3) := by decide +kernel
theorem dX4_beginPieceIfFree_46 : decode cX4_beginPieceIfFree 46 = .ok (.aload_n 0, 1) := by decide +kernel
theorem dX4_beginPieceIfFree_47 : decode cX4_beginPieceIfFree 47 = .ok (.aload_n 0, 1) := by decide +kernel
theorem dX4_beginPieceIfFree_48 : decode cX4_beginPieceIfFree 48 = .ok (.getfield 123, 3) := by decide +kernel
theorem dX4_beginPieceIfFree_51 : decode cX4_beginPieceIfFree 51 = .ok (.aload_n 0, 1) := by decide +kernel
theorem dX4_beginPieceIfFree_52 : decode cX4_beginPieceIfFree 52 = .ok (.aload_n 0, 1) := by decide +kernel
theorem dX4_beginPieceIfFree_53 : decode cX4_beginPieceIfFree 53 = .ok (.getfield 26, 3) := by decide +kernel
theorem dX4_beginPieceIfFree_56 : decode cX4_beginPieceIfFree 56 = .ok (.iload_n 2, 1) := by decide +kernel
theorem dX4_beginPieceIfFree_57 : decode cX4_beginPieceIfFree 57 = .ok (.aaload, 1) := by decide +kernel
theorem dX4_beginPieceIfFree_58 : decode cX4_beginPieceIfFree 58 = .ok (.invokevirtual 251, 3) := by decide +kernel
theorem dX4_beginPieceIfFree_61 : decode cX4_beginPieceIfFree 61 = .ok (.invokestatic 126, 3) := by decide +kernel
theorem dX4_beginPieceIfFree_64 : decode cX4_beginPieceIfFree 64 = .ok (.putfield 123, 3) := by decide +kernel
theorem dX4_beginPieceIfFree_67 : decode cX4_beginPieceIfFree 67 = .ok (.aload_n 0, 1) := by decide +kernel
theorem dX4_beginPieceIfFree_68 : decode cX4_beginPieceIfFree 68 = .ok (.iload_n 2, 1) := by decide +kernel
theorem dX4_beginPieceIfFree_69 : decode cX4_beginPieceIfFree 69 = .ok (.iload_n 1, 1) := by decide +kernel
theorem dX4_beginPieceIfFree_70 : decode cX4_beginPieceIfFree 70 = .ok (.bipush (-6), 2) := by decide +kernel
theorem dX4_beginPieceIfFree_72 : decode cX4_beginPieceIfFree 72 = .ok (.if_icmp .eq 7, 3) := by decide +kernel
theorem dX4_beginPieceIfFree_75 : decode cX4_beginPieceIfFree 75 = .ok (.iconst 1, 1) := by decide +kernel
theorem dX4_beginPieceIfFree_76 : decode cX4_beginPieceIfFree 76 = .ok (.goto 4, 3) := by decide +kernel
theorem dX4_beginPieceIfFree_79 : decode cX4_beginPieceIfFree 79 = .ok (.iconst 0, 1) := by decide +kernel
theorem dX4_beginPieceIfFree_80 : decode cX4_beginPieceIfFree 80 = .ok (.invokevirtual 255, 3) := by decide +kernel
theorem dX4_beginPieceIfFree_83 : decode cX4_beginPieceIfFree 83 = .ok (.return_, 1) := by decide +kernel
theorem dX4_beginPiece_0 : decode cX4_beginPiece 0 = .ok (.aload_n 0, 1) := by decide +kernel
theorem dX4_beginPiece_1 : decode cX4_beginPiece 1 = .ok (.aload_n 0, 1) := by decide +kernel
theorem dX4_beginPiece_2 : decode cX4_beginPiece 2 = .ok (.getfield 26, 3) := by decide +kernel
theorem dX4_beginPiece_5 : decode cX4_beginPiece 5 = .ok (.iload_n 1, 1) := by decide +kernel
theorem dX4_beginPiece_6 : decode cX4_beginPiece 6 = .ok (.aaload, 1) := by decide +kernel
theorem dX4_beginPiece_7 : decode cX4_beginPiece 7 = .ok (.invokevirtual 102, 3) := by decide +kernel
theorem dX4_beginPiece_10 : decode cX4_beginPiece 10 = .ok (.invokevirtual 91, 3) := by decide +kernel
theorem dX4_beginPiece_13 : decode cX4_beginPiece 13 = .ok (.astore_n 3, 1) := by decide +kernel
theorem dX4_beginPiece_14 : decode cX4_beginPiece 14 = .ok (.aload_n 0, 1) := by decide +kernel
theorem dX4_beginPiece_15 : decode cX4_beginPiece 15 = .ok (.getfield 26, 3) := by decide +kernel
theorem dX4_beginPiece_18 : decode cX4_beginPiece 18 = .ok (.iload_n 1, 1) := by decide +kernel
theorem dX4_beginPiece_19 : decode cX4_beginPiece 19 = .ok (.aaload, 1) := by decide +kernel
theorem dX4_beginPiece_20 : decode cX4_beginPiece 20 = .ok (.getfield 119, 3) := by decide +kernel
theorem dX4_beginPiece_23 : decode cX4_beginPiece 23 = .ok (.iconst 2, 1) := by decide +kernel
theorem dX4_beginPiece_24 : decode cX4_beginPiece 24 = .ok (.iaload, 1) := by decide +kernel
theorem dX4_beginPiece_25 : decode cX4_beginPiece 25 = .ok (.istore 4, 2) := by decide +kernel
theorem dX4_beginPiece_27 : decode cX4_beginPiece 27 = .ok (.aload_n 3, 1) := by decide +kernel
theorem dX4_beginPiece_28 : decode cX4_beginPiece 28 = .ok (.iconst 1, 1) := by decide +kernel
theorem dX4_beginPiece_29 : decode cX4_beginPiece 29 = .ok (.putfield 120, 3) := by decide +kernel
theorem dX4_beginPiece_32 : decode cX4_beginPiece 32 = .ok (.aload_n 0, 1) := by decide +kernel
theorem dX4_beginPiece_33 : decode cX4_beginPiece 33 = .ok (.getfield 45, 3) := by decide +kernel
theorem dX4_beginPiece_36 : decode cX4_beginPiece 36 = .ok (.aload_n 0, 1) := by decide +kernel
theorem dX4_beginPiece_37 : decode cX4_beginPiece 37 = .ok (.getfield 26, 3) := by decide +kernel
theorem dX4_beginPiece_40 : decode cX4_beginPiece 40 = .ok (.iload_n 1, 1) := by decide +kernel
theorem dX4_beginPiece_41 : decode cX4_beginPiece 41 = .ok (.aaload, 1) := by decide +kernel
theorem dX4_beginPiece_42 : decode cX4_beginPiece 42 = .ok (.invokevirtual 102, 3) := by decide +kernel
theorem dX4_beginPiece_45 : decode cX4_beginPiece 45 = .ok (.putfield 162, 3) := by decide +kernel
theorem dX4_beginPiece_48 : decode cX4_beginPiece 48 = .ok (.aload_n 0, 1) := by decide +kernel
theorem dX4_beginPiece_49 : decode cX4_beginPiece 49 = .ok (.getfield 45, 3) := by decide +kernel
theorem dX4_beginPiece_52 : decode cX4_beginPiece 52 = .ok (.iload_n 1, 1) := by decide +kernel
theorem dX4_beginPiece_53 : decode cX4_beginPiece 53 = .ok (.putfield 258, 3) := by decide +kernel
theorem dX4_beginPiece_56 : decode cX4_beginPiece 56 = .ok (.aload_n 0, 1) := by decide +kernel
theorem dX4_beginPiece_57 : decode cX4_beginPiece 57 = .ok (.getfield 45, 3) := by decide +kernel
theorem dX4_beginPiece_60 : decode cX4_beginPiece 60 = .ok (.iload 4, 2) := by decide +kernel
theorem dX4_beginPiece_62 : decode cX4_beginPiece 62 = .ok (.ifCond .ne 10, 3) := by decide +kernel
theorem dX4_beginPiece_65 : decode cX4_beginPiece 65 = .ok (.aload_n 3, 1) := by decide +kernel
theorem dX4_beginPiece_66 : decode cX4_beginPiece 66 = .ok (.invokevirtual 95, 3) := by decide +kernel
theorem dX4_beginPiece_69 : decode cX4_beginPiece 69 = .ok (.goto 12, 3) := by decide +kernel
theorem dX4_beginPiece_72 : decode cX4_beginPiece 72 = .ok (.iload 4, 2) := by decide +kernel
theorem dX4_beginPiece_74 : decode cX4_beginPiece 74 = .ok (.aload_n 3, 1) := by decide +kernel
theorem dX4_beginPiece_75 : decode cX4_beginPiece 75 = .ok (.invokevirtual 95, 3) := by decide +kernel
theorem dX4_beginPiece_78 : decode cX4_beginPiece 78 = .ok (.invokestatic 259, 3) := by decide +kernel
theorem dX4_beginPiece_81 : decode cX4_beginPiece 81 = .ok (.putfield 183, 3) := by decide +kernel
theorem dX4_beginPiece_84 : decode cX4_beginPiece 84 = .ok (.aload_n 0, 1) := by decide +kernel
theorem dX4_beginPiece_85 : decode cX4_beginPiece 85 = .ok (.getfield 45, 3) := by decide +kernel
theorem dX4_beginPiece_88 : decode cX4_beginPiece 88 = .ok (.aload_n 0, 1) := by decide +kernel
theorem dX4_beginPiece_89 : decode cX4_beginPiece 89 = .ok (.getfield 13, 3) := by decide +kernel
theorem dX4_beginPiece_92 : decode cX4_beginPiece 92 = .ok (.iconst 0, 1) := by decide +kernel
theorem dX4_beginPiece_93 : decode cX4_beginPiece 93 = .ok (.iaload, 1) := by decide +kernel
theorem dX4_beginPiece_94 : decode cX4_beginPiece 94 = .ok (.putfield 211, 3) := by decide +kernel
theorem dX4_beginPiece_97 : decode cX4_beginPiece 97 = .ok (.aload_n 0, 1) := by decide +kernel
theorem dX4_beginPiece_98 : decode cX4_beginPiece 98 = .ok (.getfield 45, 3) := by decide +kernel
theorem dX4_beginPiece_101 : decode cX4_beginPiece 101 = .ok (.aload_n 0, 1) := by decide +kernel
theorem dX4_beginPiece_102 : decode cX4_beginPiece 102 = .ok (.getfield 45, 3) := by decide +kernel
theorem dX4_beginPiece_105 : decode cX4_beginPiece 105 = .ok (.getfield 211, 3) := by decide +kernel
theorem dX4_beginPiece_108 : decode cX4_beginPiece 108 = .ok (.aload_n 0, 1) := by decide +kernel
theorem dX4_beginPiece_109 : decode cX4_beginPiece 109 = .ok (.getfield 45, 3) := by decide +kernel
theorem dX4_beginPiece_112 : decode cX4_beginPiece 112 = .ok (.getfield 183, 3) := by decide +kernel
theorem dX4_beginPiece_115 : decode cX4_beginPiece 115 = .ok (.iadd, 1) := by decide +kernel
theorem dX4_beginPiece_116 : decode cX4_beginPiece 116 = .ok (.putfield 168, 3) := by decide +kernel
theorem dX4_beginPiece_119 : decode cX4_beginPiece 119 = .ok (.aload_n 0, 1) := by decide +kernel
theorem dX4_beginPiece_120 : decode cX4_beginPiece 120 = .ok (.getfield 45, 3) := by decide +kernel
theorem dX4_beginPiece_123 : decode cX4_beginPiece 123 = .ok (.iload_n 2, 1) := by decide +kernel
theorem dX4_beginPiece_124 : decode cX4_beginPiece 124 = .ok (.putfield 191, 3) := by decide +kernel
theorem dX4_beginPiece_127 : decode cX4_beginPiece 127 = .ok (.return_, 1) := by decide +kernel
theorem dX4_nextFlow_0 : decode cX4_nextFlow 0 = .ok (.aload_n 0, 1) := by decide +kernel
theorem dX4_nextFlow_1 : decode cX4_nextFlow 1 = .ok (.invokevirtual 245, 3) := by decide +kernel
theorem dX4_nextFlow_4 : decode cX4_nextFlow 4 = .ok (.istore_n 1, 1) := by decide +kernel
theorem dX4_nextFlow_5 : decode cX4_nextFlow 5 = .ok (.iload_n 1, 1) := by decide +kernel
theorem dX4_nextFlow_6 : decode cX4_nextFlow 6 = .ok (.bipush (-6), 2) := by decide +kernel
theorem dX4_nextFlow_8 : decode cX4_nextFlow 8 = .ok (.if_icmp .ne 10, 3) := by decide +kernel
theorem dX4_nextFlow_11 : decode cX4_nextFlow 11 = .ok (.aload_n 0, 1) := by decide +kernel
theorem dX4_nextFlow_12 : decode cX4_nextFlow 12 = .ok (.invokevirtual 248, 3) := by decide +kernel
theorem dX4_nextFlow_15 : decode cX4_nextFlow 15 = .ok (.goto 4, 3) := by decide +kernel
theorem dX4_nextFlow_18 : decode cX4_nextFlow 18 = .ok (.iload_n 1, 1) := by decide +kernel
theorem dX4_nextFlow_19 : decode cX4_nextFlow 19 = .ok (.ireturn, 1) := by decide +kernel
theorem dX4_urgentFlow_0 : decode cX4_urgentFlow 0 = .ok (.bipush (-6), 2) := by decide +kernel
theorem dX4_urgentFlow_2 : decode cX4_urgentFlow 2 = .ok (.istore_n 1, 1) := by decide +kernel
theorem dX4_urgentFlow_3 : decode cX4_urgentFlow 3 = .ok (.iconst 0, 1) := by decide +kernel
theorem dX4_urgentFlow_4 : decode cX4_urgentFlow 4 = .ok (.istore_n 2, 1) := by decide +kernel
theorem dX4_urgentFlow_5 : decode cX4_urgentFlow 5 = .ok (.iconst 0, 1) := by decide +kernel
theorem dX4_urgentFlow_6 : decode cX4_urgentFlow 6 = .ok (.istore_n 3, 1) := by decide +kernel
theorem dX4_urgentFlow_7 : decode cX4_urgentFlow 7 = .ok (.iload_n 3, 1) := by decide +kernel
theorem dX4_urgentFlow_8 : decode cX4_urgentFlow 8 = .ok (.aload_n 0, 1) := by decide +kernel
theorem dX4_urgentFlow_9 : decode cX4_urgentFlow 9 = .ok (.getfield 60, 3) := by decide +kernel
theorem dX4_urgentFlow_12 : decode cX4_urgentFlow 12 = .ok (.if_icmp .ge 68, 3) := by decide +kernel
theorem dX4_urgentFlow_15 : decode cX4_urgentFlow 15 = .ok (.aload_n 0, 1) := by decide +kernel
theorem dX4_urgentFlow_16 : decode cX4_urgentFlow 16 = .ok (.getfield 26, 3) := by decide +kernel
theorem dX4_urgentFlow_19 : decode cX4_urgentFlow 19 = .ok (.iload_n 3, 1) := by decide +kernel
theorem dX4_urgentFlow_20 : decode cX4_urgentFlow 20 = .ok (.aaload, 1) := by decide +kernel
theorem dX4_urgentFlow_21 : decode cX4_urgentFlow 21 = .ok (.getfield 85, 3) := by decide +kernel
theorem dX4_urgentFlow_24 : decode cX4_urgentFlow 24 = .ok (.ifCond .le 50, 3) := by decide +kernel
theorem dX4_urgentFlow_27 : decode cX4_urgentFlow 27 = .ok (.aload_n 0, 1) := by decide +kernel
theorem dX4_urgentFlow_28 : decode cX4_urgentFlow 28 = .ok (.aload_n 0, 1) := by decide +kernel
theorem dX4_urgentFlow_29 : decode cX4_urgentFlow 29 = .ok (.getfield 26, 3) := by decide +kernel
theorem dX4_urgentFlow_32 : decode cX4_urgentFlow 32 = .ok (.iload_n 3, 1) := by decide +kernel
theorem dX4_urgentFlow_33 : decode cX4_urgentFlow 33 = .ok (.aaload, 1) := by decide +kernel
theorem dX4_urgentFlow_34 : decode cX4_urgentFlow 34 = .ok (.invokevirtual 102, 3) := by decide +kernel
theorem dX4_urgentFlow_37 : decode cX4_urgentFlow 37 = .ok (.invokevirtual 91, 3) := by decide +kernel
theorem dX4_urgentFlow_40 : decode cX4_urgentFlow 40 = .ok (.astore 4, 2) := by decide +kernel
theorem dX4_urgentFlow_42 : decode cX4_urgentFlow 42 = .ok (.aload_n 0, 1) := by decide +kernel
theorem dX4_urgentFlow_43 : decode cX4_urgentFlow 43 = .ok (.aload 4, 2) := by decide +kernel
theorem dX4_urgentFlow_45 : decode cX4_urgentFlow 45 = .ok (.invokevirtual 262, 3) := by decide +kernel
theorem dX4_urgentFlow_48 : decode cX4_urgentFlow 48 = .ok (.ifCond .eq 26, 3) := by decide +kernel
theorem dX4_urgentFlow_51 : decode cX4_urgentFlow 51 = .ok (.iload_n 1, 1) := by decide +kernel
theorem dX4_urgentFlow_52 : decode cX4_urgentFlow 52 = .ok (.bipush (-6), 2) := by decide +kernel
theorem dX4_urgentFlow_54 : decode cX4_urgentFlow 54 = .ok (.if_icmp .eq 12, 3) := by decide +kernel
theorem dX4_urgentFlow_57 : decode cX4_urgentFlow 57 = .ok (.aload 4, 2) := by decide +kernel
theorem dX4_urgentFlow_59 : decode cX4_urgentFlow 59 = .ok (.getfield 266, 3) := by decide +kernel
theorem dX4_urgentFlow_62 : decode cX4_urgentFlow 62 = .ok (.iload_n 2, 1) := by decide +kernel
theorem dX4_urgentFlow_63 : decode cX4_urgentFlow 63 = .ok (.if_icmp .ge 11, 3) := by decide +kernel
theorem dX4_urgentFlow_66 : decode cX4_urgentFlow 66 = .ok (.iload_n 3, 1) := by decide +kernel
theorem dX4_urgentFlow_67 : decode cX4_urgentFlow 67 = .ok (.istore_n 1, 1) := by decide +kernel
theorem dX4_urgentFlow_68 : decode cX4_urgentFlow 68 = .ok (.aload 4, 2) := by decide +kernel
theorem dX4_urgentFlow_70 : decode cX4_urgentFlow 70 = .ok (.getfield 266, 3) := by decide +kernel
theorem dX4_urgentFlow_73 : decode cX4_urgentFlow 73 = .ok (.istore_n 2, 1) := by decide +kernel
theorem dX4_urgentFlow_74 : decode cX4_urgentFlow 74 = .ok (.iinc 3 1, 3) := by decide +kernel
theorem dX4_urgentFlow_77 : decode cX4_urgentFlow 77 = .ok (.goto (-70), 3) := by decide +kernel
theorem dX4_urgentFlow_80 : decode cX4_urgentFlow 80 = .ok (.iload_n 1, 1) := by decide +kernel
theorem dX4_urgentFlow_81 : decode cX4_urgentFlow 81 = .ok (.ireturn, 1) := by decide +kernel
theorem dX4_leastTagFlow_0 : decode cX4_leastTagFlow 0 = .ok (.bipush (-6), 2) := by decide +kernel
theorem dX4_leastTagFlow_2 : decode cX4_leastTagFlow 2 = .ok (.istore_n 1, 1) := by decide +kernel
theorem dX4_leastTagFlow_3 : decode cX4_leastTagFlow 3 = .ok (.lconst 0, 1) := by decide +kernel
theorem dX4_leastTagFlow_4 : decode cX4_leastTagFlow 4 = .ok (.lstore_n 2, 1) := by decide +kernel
theorem dX4_leastTagFlow_5 : decode cX4_leastTagFlow 5 = .ok (.iconst 0, 1) := by decide +kernel
theorem dX4_leastTagFlow_6 : decode cX4_leastTagFlow 6 = .ok (.istore 4, 2) := by decide +kernel
theorem dX4_leastTagFlow_8 : decode cX4_leastTagFlow 8 = .ok (.iload 4, 2) := by decide +kernel
theorem dX4_leastTagFlow_10 : decode cX4_leastTagFlow 10 = .ok (.aload_n 0, 1) := by decide +kernel
theorem dX4_leastTagFlow_11 : decode cX4_leastTagFlow 11 = .ok (.getfield 60, 3) := by decide +kernel
theorem dX4_leastTagFlow_14 : decode cX4_leastTagFlow 14 = .ok (.if_icmp .ge 54, 3) := by decide +kernel
theorem dX4_leastTagFlow_17 : decode cX4_leastTagFlow 17 = .ok (.aload_n 0, 1) := by decide +kernel
theorem dX4_leastTagFlow_18 : decode cX4_leastTagFlow 18 = .ok (.getfield 26, 3) := by decide +kernel
theorem dX4_leastTagFlow_21 : decode cX4_leastTagFlow 21 = .ok (.iload 4, 2) := by decide +kernel
theorem dX4_leastTagFlow_23 : decode cX4_leastTagFlow 23 = .ok (.aaload, 1) := by decide +kernel
theorem dX4_leastTagFlow_24 : decode cX4_leastTagFlow 24 = .ok (.getfield 85, 3) := by decide +kernel
theorem dX4_leastTagFlow_27 : decode cX4_leastTagFlow 27 = .ok (.ifCond .le 35, 3) := by decide +kernel
theorem dX4_leastTagFlow_30 : decode cX4_leastTagFlow 30 = .ok (.aload_n 0, 1) := by decide +kernel
theorem dX4_leastTagFlow_31 : decode cX4_leastTagFlow 31 = .ok (.aload_n 0, 1) := by decide +kernel
