theorem dX0_init_0 : decode cX0_init 0 = .ok (.aload_n 0, 1) := by decide +kernel
theorem dX0_init_1 : decode cX0_init 1 = .ok (.invokespecial 3, 3) := by decide +kernel
theorem dX0_init_4 : decode cX0_init 4 = .ok (.aload_n 0, 1) := by decide +kernel
theorem dX0_init_5 : decode cX0_init 5 = .ok (.new 9, 3) := by decide +kernel
theorem dX0_init_8 : decode cX0_init 8 = .ok (.dup, 1) := by decide +kernel
theorem dX0_init_9 : decode cX0_init 9 = .ok (.invokespecial 11, 3) := by decide +kernel
theorem dX0_init_12 : decode cX0_init 12 = .ok (.putfield 12, 3) := by decide +kernel
theorem dX0_init_15 : decode cX0_init 15 = .ok (.aload_n 0, 1) := by decide +kernel
theorem dX0_init_16 : decode cX0_init 16 = .ok (.aload_n 1, 1) := by decide +kernel
theorem dX0_init_17 : decode cX0_init 17 = .ok (.putfield 18, 3) := by decide +kernel
theorem dX0_init_20 : decode cX0_init 20 = .ok (.return_, 1) := by decide +kernel
theorem dX0_begin_0 : decode cX0_begin 0 = .ok (.aload_n 0, 1) := by decide +kernel
theorem dX0_begin_1 : decode cX0_begin 1 = .ok (.getfield 12, 3) := by decide +kernel
theorem dX0_begin_4 : decode cX0_begin 4 = .ok (.aload_n 1, 1) := by decide +kernel
theorem dX0_begin_5 : decode cX0_begin 5 = .ok (.invokevirtual 22, 3) := by decide +kernel
theorem dX0_begin_8 : decode cX0_begin 8 = .ok (.return_, 1) := by decide +kernel
theorem dX0_shortenHooks_0 : decode cX0_shortenHooks 0 = .ok (.iconst 0, 1) := by decide +kernel
theorem dX0_shortenHooks_1 : decode cX0_shortenHooks 1 = .ok (.istore_n 2, 1) := by decide +kernel
theorem dX0_shortenHooks_2 : decode cX0_shortenHooks 2 = .ok (.iload_n 2, 1) := by decide +kernel
theorem dX0_shortenHooks_3 : decode cX0_shortenHooks 3 = .ok (.aload_n 0, 1) := by decide +kernel
theorem dX0_shortenHooks_4 : decode cX0_shortenHooks 4 = .ok (.getfield 18, 3) := by decide +kernel
theorem dX0_shortenHooks_7 : decode cX0_shortenHooks 7 = .ok (.getfield 26, 3) := by decide +kernel
theorem dX0_shortenHooks_10 : decode cX0_shortenHooks 10 = .ok (.if_icmp .ge 29, 3) := by decide +kernel
theorem dX0_shortenHooks_13 : decode cX0_shortenHooks 13 = .ok (.aload_n 0, 1) := by decide +kernel
theorem dX0_shortenHooks_14 : decode cX0_shortenHooks 14 = .ok (.getfield 12, 3) := by decide +kernel
theorem dX0_shortenHooks_17 : decode cX0_shortenHooks 17 = .ok (.iload_n 2, 1) := by decide +kernel
theorem dX0_shortenHooks_18 : decode cX0_shortenHooks 18 = .ok (.aload_n 0, 1) := by decide +kernel
theorem dX0_shortenHooks_19 : decode cX0_shortenHooks 19 = .ok (.getfield 12, 3) := by decide +kernel
theorem dX0_shortenHooks_22 : decode cX0_shortenHooks 22 = .ok (.iload_n 2, 1) := by decide +kernel
theorem dX0_shortenHooks_23 : decode cX0_shortenHooks 23 = .ok (.invokevirtual 32, 3) := by decide +kernel
theorem dX0_shortenHooks_26 : decode cX0_shortenHooks 26 = .ok (.iload_n 1, 1) := by decide +kernel
theorem dX0_shortenHooks_27 : decode cX0_shortenHooks 27 = .ok (.invokestatic 36, 3) := by decide +kernel
theorem dX0_shortenHooks_30 : decode cX0_shortenHooks 30 = .ok (.invokevirtual 42, 3) := by decide +kernel
theorem dX0_shortenHooks_33 : decode cX0_shortenHooks 33 = .ok (.iinc 2 1, 3) := by decide +kernel
theorem dX0_shortenHooks_36 : decode cX0_shortenHooks 36 = .ok (.goto (-34), 3) := by decide +kernel
theorem dX0_shortenHooks_39 : decode cX0_shortenHooks 39 = .ok (.return_, 1) := by decide +kernel
theorem dX0_goTo_0 : decode cX0_goTo 0 = .ok (.iconst 0, 1) := by decide +kernel
theorem dX0_goTo_1 : decode cX0_goTo 1 = .ok (.istore_n 2, 1) := by decide +kernel
theorem dX0_goTo_2 : decode cX0_goTo 2 = .ok (.iload_n 2, 1) := by decide +kernel
theorem dX0_goTo_3 : decode cX0_goTo 3 = .ok (.bipush 99, 2) := by decide +kernel
theorem dX0_goTo_5 : decode cX0_goTo 5 = .ok (.if_icmp .gt 40, 3) := by decide +kernel
theorem dX0_goTo_8 : decode cX0_goTo 8 = .ok (.aload_n 0, 1) := by decide +kernel
theorem dX0_goTo_9 : decode cX0_goTo 9 = .ok (.invokevirtual 46, 3) := by decide +kernel
theorem dX0_goTo_12 : decode cX0_goTo 12 = .ok (.ifCond .ne 33, 3) := by decide +kernel
theorem dX0_goTo_15 : decode cX0_goTo 15 = .ok (.aload_n 0, 1) := by decide +kernel
theorem dX0_goTo_16 : decode cX0_goTo 16 = .ok (.invokevirtual 50, 3) := by decide +kernel
theorem dX0_goTo_19 : decode cX0_goTo 19 = .ok (.aload_n 0, 1) := by decide +kernel
theorem dX0_goTo_20 : decode cX0_goTo 20 = .ok (.getfield 12, 3) := by decide +kernel
theorem dX0_goTo_23 : decode cX0_goTo 23 = .ok (.getfield 53, 3) := by decide +kernel
theorem dX0_goTo_26 : decode cX0_goTo 26 = .ok (.iload_n 1, 1) := by decide +kernel
theorem dX0_goTo_27 : decode cX0_goTo 27 = .ok (.if_icmp .lt 4, 3) := by decide +kernel
theorem dX0_goTo_30 : decode cX0_goTo 30 = .ok (.return_, 1) := by decide +kernel
theorem dX0_goTo_31 : decode cX0_goTo 31 = .ok (.aload_n 0, 1) := by decide +kernel
theorem dX0_goTo_32 : decode cX0_goTo 32 = .ok (.getfield 12, 3) := by decide +kernel
theorem dX0_goTo_35 : decode cX0_goTo 35 = .ok (.iconst 1, 1) := by decide +kernel
theorem dX0_goTo_36 : decode cX0_goTo 36 = .ok (.invokevirtual 56, 3) := by decide +kernel
theorem dX0_goTo_39 : decode cX0_goTo 39 = .ok (.iinc 2 1, 3) := by decide +kernel
theorem dX0_goTo_42 : decode cX0_goTo 42 = .ok (.goto (-40), 3) := by decide +kernel
theorem dX0_goTo_45 : decode cX0_goTo 45 = .ok (.return_, 1) := by decide +kernel
theorem dX0_isOver_0 : decode cX0_isOver 0 = .ok (.aload_n 0, 1) := by decide +kernel
theorem dX0_isOver_1 : decode cX0_isOver 1 = .ok (.getfield 12, 3) := by decide +kernel
theorem dX0_isOver_4 : decode cX0_isOver 4 = .ok (.getfield 60, 3) := by decide +kernel
theorem dX0_isOver_7 : decode cX0_isOver 7 = .ok (.iconst 1, 1) := by decide +kernel
theorem dX0_isOver_8 : decode cX0_isOver 8 = .ok (.aload_n 0, 1) := by decide +kernel
theorem dX0_isOver_9 : decode cX0_isOver 9 = .ok (.getfield 18, 3) := by decide +kernel
theorem dX0_isOver_12 : decode cX0_isOver 12 = .ok (.getfield 63, 3) := by decide +kernel
theorem dX0_isOver_15 : decode cX0_isOver 15 = .ok (.ishl, 1) := by decide +kernel
theorem dX0_isOver_16 : decode cX0_isOver 16 = .ok (.iconst 1, 1) := by decide +kernel
theorem dX0_isOver_17 : decode cX0_isOver 17 = .ok (.isub, 1) := by decide +kernel
theorem dX0_isOver_18 : decode cX0_isOver 18 = .ok (.if_icmp .eq 17, 3) := by decide +kernel
theorem dX0_isOver_21 : decode cX0_isOver 21 = .ok (.aload_n 0, 1) := by decide +kernel
theorem dX0_isOver_22 : decode cX0_isOver 22 = .ok (.getfield 18, 3) := by decide +kernel
theorem dX0_isOver_25 : decode cX0_isOver 25 = .ok (.aload_n 0, 1) := by decide +kernel
theorem dX0_isOver_26 : decode cX0_isOver 26 = .ok (.getfield 12, 3) := by decide +kernel
theorem dX0_isOver_29 : decode cX0_isOver 29 = .ok (.invokevirtual 66, 3) := by decide +kernel
theorem dX0_isOver_32 : decode cX0_isOver 32 = .ok (.ifCond .eq 7, 3) := by decide +kernel
theorem dX0_isOver_35 : decode cX0_isOver 35 = .ok (.iconst 1, 1) := by decide +kernel
theorem dX0_isOver_36 : decode cX0_isOver 36 = .ok (.goto 4, 3) := by decide +kernel
theorem dX0_isOver_39 : decode cX0_isOver 39 = .ok (.iconst 0, 1) := by decide +kernel
theorem dX0_isOver_40 : decode cX0_isOver 40 = .ok (.ireturn, 1) := by decide +kernel
theorem dX0_firstDayAllWarm_0 : decode cX0_firstDayAllWarm 0 = .ok (.iconst 0, 1) := by decide +kernel
theorem dX0_firstDayAllWarm_1 : decode cX0_firstDayAllWarm 1 = .ok (.istore_n 1, 1) := by decide +kernel
theorem dX0_firstDayAllWarm_2 : decode cX0_firstDayAllWarm 2 = .ok (.iload_n 1, 1) := by decide +kernel
theorem dX0_firstDayAllWarm_3 : decode cX0_firstDayAllWarm 3 = .ok (.bipush 99, 2) := by decide +kernel
theorem dX0_firstDayAllWarm_5 : decode cX0_firstDayAllWarm 5 = .ok (.if_icmp .gt 58, 3) := by decide +kernel
theorem dX0_firstDayAllWarm_8 : decode cX0_firstDayAllWarm 8 = .ok (.aload_n 0, 1) := by decide +kernel
theorem dX0_firstDayAllWarm_9 : decode cX0_firstDayAllWarm 9 = .ok (.invokevirtual 50, 3) := by decide +kernel
theorem dX0_firstDayAllWarm_12 : decode cX0_firstDayAllWarm 12 = .ok (.aload_n 0, 1) := by decide +kernel
theorem dX0_firstDayAllWarm_13 : decode cX0_firstDayAllWarm 13 = .ok (.getfield 18, 3) := by decide +kernel
theorem dX0_firstDayAllWarm_16 : decode cX0_firstDayAllWarm 16 = .ok (.aload_n 0, 1) := by decide +kernel
theorem dX0_firstDayAllWarm_17 : decode cX0_firstDayAllWarm 17 = .ok (.getfield 12, 3) := by decide +kernel
theorem dX0_firstDayAllWarm_20 : decode cX0_firstDayAllWarm 20 = .ok (.invokevirtual 66, 3) := by decide +kernel
theorem dX0_firstDayAllWarm_23 : decode cX0_firstDayAllWarm 23 = .ok (.ifCond .eq 11, 3) := by decide +kernel
theorem dX0_firstDayAllWarm_26 : decode cX0_firstDayAllWarm 26 = .ok (.aload_n 0, 1) := by decide +kernel
theorem dX0_firstDayAllWarm_27 : decode cX0_firstDayAllWarm 27 = .ok (.getfield 12, 3) := by decide +kernel
theorem dX0_firstDayAllWarm_30 : decode cX0_firstDayAllWarm 30 = .ok (.getfield 53, 3) := by decide +kernel
theorem dX0_firstDayAllWarm_33 : decode cX0_firstDayAllWarm 33 = .ok (.ireturn, 1) := by decide +kernel
theorem dX0_firstDayAllWarm_34 : decode cX0_firstDayAllWarm 34 = .ok (.aload_n 0, 1) := by decide +kernel
theorem dX0_firstDayAllWarm_35 : decode cX0_firstDayAllWarm 35 = .ok (.getfield 12, 3) := by decide +kernel
theorem dX0_firstDayAllWarm_38 : decode cX0_firstDayAllWarm 38 = .ok (.getfield 53, 3) := by decide +kernel
theorem dX0_firstDayAllWarm_41 : decode cX0_firstDayAllWarm 41 = .ok (.bipush 99, 2) := by decide +kernel
theorem dX0_firstDayAllWarm_43 : decode cX0_firstDayAllWarm 43 = .ok (.if_icmp .lt 6, 3) := by decide +kernel
theorem dX0_firstDayAllWarm_46 : decode cX0_firstDayAllWarm 46 = .ok (.bipush (-4), 2) := by decide +kernel
theorem dX0_firstDayAllWarm_48 : decode cX0_firstDayAllWarm 48 = .ok (.ireturn, 1) := by decide +kernel
theorem dX0_firstDayAllWarm_49 : decode cX0_firstDayAllWarm 49 = .ok (.aload_n 0, 1) := by decide +kernel
theorem dX0_firstDayAllWarm_50 : decode cX0_firstDayAllWarm 50 = .ok (.getfield 12, 3) := by decide +kernel
theorem dX0_firstDayAllWarm_53 : decode cX0_firstDayAllWarm 53 = .ok (.iconst 1, 1) := by decide +kernel
theorem dX0_firstDayAllWarm_54 : decode cX0_firstDayAllWarm 54 = .ok (.invokevirtual 56, 3) := by decide +kernel
theorem dX0_firstDayAllWarm_57 : decode cX0_firstDayAllWarm 57 = .ok (.iinc 1 1, 3) := by decide +kernel
theorem dX0_firstDayAllWarm_60 : decode cX0_firstDayAllWarm 60 = .ok (.goto (-58), 3) := by decide +kernel
theorem dX0_firstDayAllWarm_63 : decode cX0_firstDayAllWarm 63 = .ok (.bipush (-4), 2) := by decide +kernel
theorem dX0_firstDayAllWarm_65 : decode cX0_firstDayAllWarm 65 = .ok (.ireturn, 1) := by decide +kernel
theorem dX0_goThroughStorm_0 : decode cX0_goThroughStorm 0 = .ok (.iconst 0, 1) := by decide +kernel
theorem dX0_goThroughStorm_1 : decode cX0_goThroughStorm 1 = .ok (.istore_n 3, 1) := by decide +kernel
theorem dX0_goThroughStorm_2 : decode cX0_goThroughStorm 2 = .ok (.iload_n 3, 1) := by decide +kernel
theorem dX0_goThroughStorm_3 : decode cX0_goThroughStorm 3 = .ok (.iload_n 2, 1) := by decide +kernel
theorem dX0_goThroughStorm_4 : decode cX0_goThroughStorm 4 = .ok (.if_icmp .ge 34, 3) := by decide +kernel
theorem dX0_goThroughStorm_7 : decode cX0_goThroughStorm 7 = .ok (.iload_n 3, 1) := by decide +kernel
theorem dX0_goThroughStorm_8 : decode cX0_goThroughStorm 8 = .ok (.ifCond .le 11, 3) := by decide +kernel
theorem dX0_goThroughStorm_11 : decode cX0_goThroughStorm 11 = .ok (.aload_n 0, 1) := by decide +kernel
theorem dX0_goThroughStorm_12 : decode cX0_goThroughStorm 12 = .ok (.getfield 12, 3) := by decide +kernel
theorem dX0_goThroughStorm_15 : decode cX0_goThroughStorm 15 = .ok (.iconst 1, 1) := by decide +kernel
theorem dX0_goThroughStorm_16 : decode cX0_goThroughStorm 16 = .ok (.invokevirtual 56, 3) := by decide +kernel
theorem dX0_goThroughStorm_19 : decode cX0_goThroughStorm 19 = .ok (.aload_n 0, 1) := by decide +kernel
theorem dX0_goThroughStorm_20 : decode cX0_goThroughStorm 20 = .ok (.iload_n 1, 1) := by decide +kernel
theorem dX0_goThroughStorm_21 : decode cX0_goThroughStorm 21 = .ok (.iload_n 3, 1) := by decide +kernel
theorem dX0_goThroughStorm_22 : decode cX0_goThroughStorm 22 = .ok (.invokestatic 70, 3) := by decide +kernel
theorem dX0_goThroughStorm_25 : decode cX0_goThroughStorm 25 = .ok (.invokevirtual 73, 3) := by decide +kernel
theorem dX0_goThroughStorm_28 : decode cX0_goThroughStorm 28 = .ok (.aload_n 0, 1) := by decide +kernel
theorem dX0_goThroughStorm_29 : decode cX0_goThroughStorm 29 = .ok (.invokevirtual 50, 3) := by decide +kernel
theorem dX0_goThroughStorm_32 : decode cX0_goThroughStorm 32 = .ok (.iinc 3 1, 3) := by decide +kernel
theorem dX0_goThroughStorm_35 : decode cX0_goThroughStorm 35 = .ok (.goto (-33), 3) := by decide +kernel
theorem dX0_goThroughStorm_38 : decode cX0_goThroughStorm 38 = .ok (.return_, 1) := by decide +kernel
theorem dX0_draw_0 : decode cX0_draw 0 = .ok (.ldc2_w 76, 3) := by decide +kernel
theorem dX0_draw_3 : decode cX0_draw 3 = .ok (.iload_n 0, 1) := by decide +kernel
theorem dX0_draw_4 : decode cX0_draw 4 = .ok (.i2l, 1) := by decide +kernel
theorem dX0_draw_5 : decode cX0_draw 5 = .ok (.lmul, 1) := by decide +kernel
theorem dX0_draw_6 : decode cX0_draw 6 = .ok (.ldc2_w 78, 3) := by decide +kernel
theorem dX0_draw_9 : decode cX0_draw 9 = .ok (.iload_n 1, 1) := by decide +kernel
theorem dX0_draw_10 : decode cX0_draw 10 = .ok (.i2l, 1) := by decide +kernel
theorem dX0_draw_11 : decode cX0_draw 11 = .ok (.lmul, 1) := by decide +kernel
theorem dX0_draw_12 : decode cX0_draw 12 = .ok (.ladd, 1) := by decide +kernel
theorem dX0_draw_13 : decode cX0_draw 13 = .ok (.lconst 1, 1) := by decide +kernel
theorem dX0_draw_14 : decode cX0_draw 14 = .ok (.ladd, 1) := by decide +kernel
theorem dX0_draw_15 : decode cX0_draw 15 = .ok (.lstore_n 2, 1) := by decide +kernel
theorem dX0_draw_16 : decode cX0_draw 16 = .ok (.lload_n 2, 1) := by decide +kernel
theorem dX0_draw_17 : decode cX0_draw 17 = .ok (.lload_n 2, 1) := by decide +kernel
theorem dX0_draw_18 : decode cX0_draw 18 = .ok (.lmul, 1) := by decide +kernel
theorem dX0_draw_19 : decode cX0_draw 19 = .ok (.ldc2_w 80, 3) := by decide +kernel
theorem dX0_draw_22 : decode cX0_draw 22 = .ok (.lrem, 1) := by decide +kernel
theorem dX0_draw_23 : decode cX0_draw 23 = .ok (.ldc2_w 82, 3) := by decide +kernel
theorem dX0_draw_26 : decode cX0_draw 26 = .ok (.ldiv, 1) := by decide +kernel
theorem dX0_draw_27 : decode cX0_draw 27 = .ok (.l2i, 1) := by decide +kernel
theorem dX0_draw_28 : decode cX0_draw 28 = .ok (.ireturn, 1) := by decide +kernel
theorem dX0_blow_0 : decode cX0_blow 0 = .ok (.iload_n 1, 1) := by decide +kernel
theorem dX0_blow_1 : decode cX0_blow 1 = .ok (.bipush 8, 2) := by decide +kernel
theorem dX0_blow_3 : decode cX0_blow 3 = .ok (.idiv, 1) := by decide +kernel
theorem dX0_blow_4 : decode cX0_blow 4 = .ok (.iconst 3, 1) := by decide +kernel
theorem dX0_blow_5 : decode cX0_blow 5 = .ok (.irem, 1) := by decide +kernel
theorem dX0_blow_6 : decode cX0_blow 6 = .ok (.ifCond .ne 57, 3) := by decide +kernel
theorem dX0_blow_9 : decode cX0_blow 9 = .ok (.aload_n 0, 1) := by decide +kernel
theorem dX0_blow_10 : decode cX0_blow 10 = .ok (.getfield 18, 3) := by decide +kernel
theorem dX0_blow_13 : decode cX0_blow 13 = .ok (.getfield 63, 3) := by decide +kernel
theorem dX0_blow_16 : decode cX0_blow 16 = .ok (.ifCond .le 47, 3) := by decide +kernel
theorem dX0_blow_19 : decode cX0_blow 19 = .ok (.iload_n 1, 1) := by decide +kernel
theorem dX0_blow_20 : decode cX0_blow 20 = .ok (.aload_n 0, 1) := by decide +kernel
theorem dX0_blow_21 : decode cX0_blow 21 = .ok (.getfield 18, 3) := by decide +kernel
theorem dX0_blow_24 : decode cX0_blow 24 = .ok (.getfield 63, 3) := by decide +kernel
theorem dX0_blow_27 : decode cX0_blow 27 = .ok (.irem, 1) := by decide +kernel
theorem dX0_blow_28 : decode cX0_blow 28 = .ok (.istore_n 2, 1) := by decide +kernel
theorem dX0_blow_29 : decode cX0_blow 29 = .ok (.aload_n 0, 1) := by decide +kernel
theorem dX0_blow_30 : decode cX0_blow 30 = .ok (.getfield 12, 3) := by decide +kernel
theorem dX0_blow_33 : decode cX0_blow 33 = .ok (.iload_n 2, 1) := by decide +kernel
theorem dX0_blow_34 : decode cX0_blow 34 = .ok (.aload_n 0, 1) := by decide +kernel
theorem dX0_blow_35 : decode cX0_blow 35 = .ok (.getfield 12, 3) := by decide +kernel
theorem dX0_blow_38 : decode cX0_blow 38 = .ok (.iload_n 2, 1) := by decide +kernel
theorem dX0_blow_39 : decode cX0_blow 39 = .ok (.invokevirtual 84, 3) := by decide +kernel
theorem dX0_blow_42 : decode cX0_blow 42 = .ok (.aload_n 0, 1) := by decide +kernel
theorem dX0_blow_43 : decode cX0_blow 43 = .ok (.getfield 12, 3) := by decide +kernel
theorem dX0_blow_46 : decode cX0_blow 46 = .ok (.getfield 53, 3) := by decide +kernel
theorem dX0_blow_49 : decode cX0_blow 49 = .ok (.aload_n 0, 1) := by decide +kernel
theorem dX0_blow_50 : decode cX0_blow 50 = .ok (.getfield 18, 3) := by decide +kernel
theorem dX0_blow_53 : decode cX0_blow 53 = .ok (.getfield 87, 3) := by decide +kernel
theorem dX0_blow_56 : decode cX0_blow 56 = .ok (.isub, 1) := by decide +kernel
theorem dX0_blow_57 : decode cX0_blow 57 = .ok (.invokestatic 36, 3) := by decide +kernel
theorem dX0_blow_60 : decode cX0_blow 60 = .ok (.invokevirtual 90, 3) := by decide +kernel
theorem dX0_blow_63 : decode cX0_blow 63 = .ok (.return_, 1) := by decide +kernel
theorem dX0_gatherToday_0 : decode cX0_gatherToday 0 = .ok (.iconst 0, 1) := by decide +kernel
theorem dX0_gatherToday_1 : decode cX0_gatherToday 1 = .ok (.istore_n 1, 1) := by decide +kernel
theorem dX0_gatherToday_2 : decode cX0_gatherToday 2 = .ok (.iload_n 1, 1) := by decide +kernel
theorem dX0_gatherToday_3 : decode cX0_gatherToday 3 = .ok (.aload_n 0, 1) := by decide +kernel
theorem dX0_gatherToday_4 : decode cX0_gatherToday 4 = .ok (.getfield 18, 3) := by decide +kernel
theorem dX0_gatherToday_7 : decode cX0_gatherToday 7 = .ok (.getfield 26, 3) := by decide +kernel
theorem dX0_gatherToday_10 : decode cX0_gatherToday 10 = .ok (.if_icmp .ge 76, 3) := by decide +kernel
theorem dX0_gatherToday_13 : decode cX0_gatherToday 13 = .ok (.iconst 0, 1) := by decide +kernel
theorem dX0_gatherToday_14 : decode cX0_gatherToday 14 = .ok (.istore_n 2, 1) := by decide +kernel
theorem dX0_gatherToday_15 : decode cX0_gatherToday 15 = .ok (.iload_n 2, 1) := by decide +kernel
theorem dX0_gatherToday_16 : decode cX0_gatherToday 16 = .ok (.aload_n 0, 1) := by decide +kernel
theorem dX0_gatherToday_17 : decode cX0_gatherToday 17 = .ok (.getfield 18, 3) := by decide +kernel
theorem dX0_gatherToday_20 : decode cX0_gatherToday 20 = .ok (.getfield 63, 3) := by decide +kernel
theorem dX0_gatherToday_23 : decode cX0_gatherToday 23 = .ok (.if_icmp .ge 57, 3) := by decide +kernel
theorem dX0_gatherToday_26 : decode cX0_gatherToday 26 = .ok (.aload_n 0, 1) := by decide +kernel
theorem dX0_gatherToday_27 : decode cX0_gatherToday 27 = .ok (.getfield 18, 3) := by decide +kernel
theorem dX0_gatherToday_30 : decode cX0_gatherToday 30 = .ok (.aload_n 0, 1) := by decide +kernel
theorem dX0_gatherToday_31 : decode cX0_gatherToday 31 = .ok (.getfield 12, 3) := by decide +kernel
theorem dX0_gatherToday_34 : decode cX0_gatherToday 34 = .ok (.iload_n 1, 1) := by decide +kernel
theorem dX0_gatherToday_35 : decode cX0_gatherToday 35 = .ok (.invokevirtual 93, 3) := by decide +kernel
theorem dX0_gatherToday_38 : decode cX0_gatherToday 38 = .ok (.ifCond .ne 42, 3) := by decide +kernel
theorem dX0_gatherToday_41 : decode cX0_gatherToday 41 = .ok (.aload_n 0, 1) := by decide +kernel
theorem dX0_gatherToday_42 : decode cX0_gatherToday 42 = .ok (.getfield 18, 3) := by decide +kernel
theorem dX0_gatherToday_45 : decode cX0_gatherToday 45 = .ok (.aload_n 0, 1) := by decide +kernel
theorem dX0_gatherToday_46 : decode cX0_gatherToday 46 = .ok (.getfield 12, 3) := by decide +kernel
theorem dX0_gatherToday_49 : decode cX0_gatherToday 49 = .ok (.iload_n 1, 1) := by decide +kernel
theorem dX0_gatherToday_50 : decode cX0_gatherToday 50 = .ok (.iload_n 2, 1) := by decide +kernel
theorem dX0_gatherToday_51 : decode cX0_gatherToday 51 = .ok (.invokevirtual 97, 3) := by decide +kernel
theorem dX0_gatherToday_54 : decode cX0_gatherToday 54 = .ok (.ifCond .eq 20, 3) := by decide +kernel
theorem dX0_gatherToday_57 : decode cX0_gatherToday 57 = .ok (.aload_n 0, 1) := by decide +kernel
theorem dX0_gatherToday_58 : decode cX0_gatherToday 58 = .ok (.getfield 12, 3) := by decide +kernel
theorem dX0_gatherToday_61 : decode cX0_gatherToday 61 = .ok (.iload_n 1, 1) := by decide +kernel
theorem dX0_gatherToday_62 : decode cX0_gatherToday 62 = .ok (.iload_n 2, 1) := by decide +kernel
theorem dX0_gatherToday_63 : decode cX0_gatherToday 63 = .ok (.aload_n 0, 1) := by decide +kernel
theorem dX0_gatherToday_64 : decode cX0_gatherToday 64 = .ok (.getfield 18, 3) := by decide +kernel
theorem dX0_gatherToday_67 : decode cX0_gatherToday 67 = .ok (.iload_n 2, 1) := by decide +kernel
theorem dX0_gatherToday_68 : decode cX0_gatherToday 68 = .ok (.invokevirtual 101, 3) := by decide +kernel
theorem dX0_gatherToday_71 : decode cX0_gatherToday 71 = .ok (.invokevirtual 104, 3) := by decide +kernel
theorem dX0_gatherToday_74 : decode cX0_gatherToday 74 = .ok (.iinc 2 1, 3) := by decide +kernel
theorem dX0_gatherToday_77 : decode cX0_gatherToday 77 = .ok (.goto (-62), 3) := by decide +kernel
theorem dX0_gatherToday_80 : decode cX0_gatherToday 80 = .ok (.iinc 1 1, 3) := by decide +kernel
theorem dX0_gatherToday_83 : decode cX0_gatherToday 83 = .ok (.goto (-81), 3) := by decide +kernel
theorem dX0_gatherToday_86 : decode cX0_gatherToday 86 = .ok (.return_, 1) := by decide +kernel
theorem dX1_init_0 : decode cX1_init 0 = .ok (.aload_n 0, 1) := by decide +kernel
theorem dX1_init_1 : decode cX1_init 1 = .ok (.invokespecial 3, 3) := by decide +kernel
theorem dX1_init_4 : decode cX1_init 4 = .ok (.aload_n 0, 1) := by decide +kernel
theorem dX1_init_5 : decode cX1_init 5 = .ok (.bipush 8, 2) := by decide +kernel
theorem dX1_init_7 : decode cX1_init 7 = .ok (.newarray .int, 2) := by decide +kernel
theorem dX1_init_9 : decode cX1_init 9 = .ok (.putfield 9, 3) := by decide +kernel
theorem dX1_init_12 : decode cX1_init 12 = .ok (.aload_n 0, 1) := by decide +kernel
theorem dX1_init_13 : decode cX1_init 13 = .ok (.bipush 9, 2) := by decide +kernel
theorem dX1_init_15 : decode cX1_init 15 = .ok (.newarray .int, 2) := by decide +kernel
theorem dX1_init_17 : decode cX1_init 17 = .ok (.putfield 15, 3) := by decide +kernel
theorem dX1_init_20 : decode cX1_init 20 = .ok (.aload_n 0, 1) := by decide +kernel
theorem dX1_init_21 : decode cX1_init 21 = .ok (.iconst 4, 1) := by decide +kernel
theorem dX1_init_22 : decode cX1_init 22 = .ok (.newarray .int, 2) := by decide +kernel
theorem dX1_init_24 : decode cX1_init 24 = .ok (.putfield 18, 3) := by decide +kernel
theorem dX1_init_27 : decode cX1_init 27 = .ok (.aload_n 0, 1) := by decide +kernel
theorem dX1_init_28 : decode cX1_init 28 = .ok (.bipush 8, 2) := by decide +kernel
theorem dX1_init_30 : decode cX1_init 30 = .ok (.newarray .int, 2) := by decide +kernel
theorem dX1_init_32 : decode cX1_init 32 = .ok (.putfield 21, 3) := by decide +kernel
theorem dX1_init_35 : decode cX1_init 35 = .ok (.aload_n 0, 1) := by decide +kernel
theorem dX1_init_36 : decode cX1_init 36 = .ok (.bipush 8, 2) := by decide +kernel
theorem dX1_init_38 : decode cX1_init 38 = .ok (.newarray .int, 2) := by decide +kernel
theorem dX1_init_40 : decode cX1_init 40 = .ok (.putfield 24, 3) := by decide +kernel
theorem dX1_init_43 : decode cX1_init 43 = .ok (.aload_n 0, 1) := by decide +kernel
theorem dX1_init_44 : decode cX1_init 44 = .ok (.aload_n 1, 1) := by decide +kernel
theorem dX1_init_45 : decode cX1_init 45 = .ok (.putfield 27, 3) := by decide +kernel
theorem dX1_init_48 : decode cX1_init 48 = .ok (.return_, 1) := by decide +kernel
theorem dX1_whoHas_0 : decode cX1_whoHas 0 = .ok (.iload_n 1, 1) := by decide +kernel
theorem dX1_whoHas_1 : decode cX1_whoHas 1 = .ok (.ifCond .lt 21, 3) := by decide +kernel
theorem dX1_whoHas_4 : decode cX1_whoHas 4 = .ok (.iload_n 1, 1) := by decide +kernel
theorem dX1_whoHas_5 : decode cX1_whoHas 5 = .ok (.aload_n 0, 1) := by decide +kernel
theorem dX1_whoHas_6 : decode cX1_whoHas 6 = .ok (.getfield 24, 3) := by decide +kernel
theorem dX1_whoHas_9 : decode cX1_whoHas 9 = .ok (.arraylength, 1) := by decide +kernel
theorem dX1_whoHas_10 : decode cX1_whoHas 10 = .ok (.if_icmp .ge 12, 3) := by decide +kernel
theorem dX1_whoHas_13 : decode cX1_whoHas 13 = .ok (.aload_n 0, 1) := by decide +kernel
theorem dX1_whoHas_14 : decode cX1_whoHas 14 = .ok (.getfield 24, 3) := by decide +kernel
theorem dX1_whoHas_17 : decode cX1_whoHas 17 = .ok (.iload_n 1, 1) := by decide +kernel
theorem dX1_whoHas_18 : decode cX1_whoHas 18 = .ok (.iaload, 1) := by decide +kernel
theorem dX1_whoHas_19 : decode cX1_whoHas 19 = .ok (.goto 5, 3) := by decide +kernel
theorem dX1_whoHas_22 : decode cX1_whoHas 22 = .ok (.bipush (-4), 2) := by decide +kernel
theorem dX1_whoHas_24 : decode cX1_whoHas 24 = .ok (.ireturn, 1) := by decide +kernel
theorem dX1_find_0 : decode cX1_find 0 = .ok (.iconst 0, 1) := by decide +kernel
theorem dX1_find_1 : decode cX1_find 1 = .ok (.istore_n 2, 1) := by decide +kernel
theorem dX1_find_2 : decode cX1_find 2 = .ok (.iconst 0, 1) := by decide +kernel
theorem dX1_find_3 : decode cX1_find 3 = .ok (.istore_n 3, 1) := by decide +kernel
theorem dX1_find_4 : decode cX1_find 4 = .ok (.iload_n 3, 1) := by decide +kernel
theorem dX1_find_5 : decode cX1_find 5 = .ok (.iconst 4, 1) := by decide +kernel
theorem dX1_find_6 : decode cX1_find 6 = .ok (.if_icmp .ge 53, 3) := by decide +kernel
theorem dX1_find_9 : decode cX1_find 9 = .ok (.aload_n 0, 1) := by decide +kernel
theorem dX1_find_10 : decode cX1_find 10 = .ok (.getfield 18, 3) := by decide +kernel
theorem dX1_find_13 : decode cX1_find 13 = .ok (.iload_n 3, 1) := by decide +kernel
theorem dX1_find_14 : decode cX1_find 14 = .ok (.aload_n 0, 1) := by decide +kernel
theorem dX1_find_15 : decode cX1_find 15 = .ok (.getfield 27, 3) := by decide +kernel
theorem dX1_find_18 : decode cX1_find 18 = .ok (.iload_n 3, 1) := by decide +kernel
theorem dX1_find_19 : decode cX1_find 19 = .ok (.invokevirtual 31, 3) := by decide +kernel
theorem dX1_find_22 : decode cX1_find 22 = .ok (.ifCond .eq 20, 3) := by decide +kernel
theorem dX1_find_25 : decode cX1_find 25 = .ok (.aload_n 0, 1) := by decide +kernel
theorem dX1_find_26 : decode cX1_find 26 = .ok (.getfield 27, 3) := by decide +kernel
theorem dX1_find_29 : decode cX1_find 29 = .ok (.iload_n 3, 1) := by decide +kernel
theorem dX1_find_30 : decode cX1_find 30 = .ok (.invokevirtual 37, 3) := by decide +kernel
theorem dX1_find_33 : decode cX1_find 33 = .ok (.aload_n 1, 1) := by decide +kernel
theorem dX1_find_34 : decode cX1_find 34 = .ok (.iload_n 3, 1) := by decide +kernel
theorem dX1_find_35 : decode cX1_find 35 = .ok (.invokevirtual 41, 3) := by decide +kernel
theorem dX1_find_38 : decode cX1_find 38 = .ok (.isub, 1) := by decide +kernel
theorem dX1_find_39 : decode cX1_find 39 = .ok (.goto 4, 3) := by decide +kernel
theorem dX1_find_42 : decode cX1_find 42 = .ok (.iconst 0, 1) := by decide +kernel
theorem dX1_find_43 : decode cX1_find 43 = .ok (.iastore, 1) := by decide +kernel
theorem dX1_find_44 : decode cX1_find 44 = .ok (.iload_n 2, 1) := by decide +kernel
theorem dX1_find_45 : decode cX1_find 45 = .ok (.aload_n 0, 1) := by decide +kernel
theorem dX1_find_46 : decode cX1_find 46 = .ok (.getfield 18, 3) := by decide +kernel
theorem dX1_find_49 : decode cX1_find 49 = .ok (.iload_n 3, 1) := by decide +kernel
theorem dX1_find_50 : decode cX1_find 50 = .ok (.iaload, 1) := by decide +kernel
theorem dX1_find_51 : decode cX1_find 51 = .ok (.iadd, 1) := by decide +kernel
theorem dX1_find_52 : decode cX1_find 52 = .ok (.istore_n 2, 1) := by decide +kernel
theorem dX1_find_53 : decode cX1_find 53 = .ok (.iinc 3 1, 3) := by decide +kernel
theorem dX1_find_56 : decode cX1_find 56 = .ok (.goto (-52), 3) := by decide +kernel
theorem dX1_find_59 : decode cX1_find 59 = .ok (.aload_n 0, 1) := by decide +kernel
theorem dX1_find_60 : decode cX1_find 60 = .ok (.getfield 15, 3) := by decide +kernel
theorem dX1_find_63 : decode cX1_find 63 = .ok (.bipush 8, 2) := by decide +kernel
theorem dX1_find_65 : decode cX1_find 65 = .ok (.iconst 0, 1) := by decide +kernel
theorem dX1_find_66 : decode cX1_find 66 = .ok (.iastore, 1) := by decide +kernel
theorem dX1_find_67 : decode cX1_find 67 = .ok (.bipush 7, 2) := by decide +kernel
theorem dX1_find_69 : decode cX1_find 69 = .ok (.istore_n 3, 1) := by decide +kernel
theorem dX1_find_70 : decode cX1_find 70 = .ok (.iload_n 3, 1) := by decide +kernel
theorem dX1_find_71 : decode cX1_find 71 = .ok (.ifCond .lt 72, 3) := by decide +kernel
theorem dX1_find_74 : decode cX1_find 74 = .ok (.aload_n 0, 1) := by decide +kernel
theorem dX1_find_75 : decode cX1_find 75 = .ok (.getfield 9, 3) := by decide +kernel
theorem dX1_find_78 : decode cX1_find 78 = .ok (.iload_n 3, 1) := by decide +kernel
theorem dX1_find_79 : decode cX1_find 79 = .ok (.aload_n 0, 1) := by decide +kernel
theorem dX1_find_80 : decode cX1_find 80 = .ok (.getfield 27, 3) := by decide +kernel
theorem dX1_find_83 : decode cX1_find 83 = .ok (.iload_n 3, 1) := by decide +kernel
theorem dX1_find_84 : decode cX1_find 84 = .ok (.invokevirtual 46, 3) := by decide +kernel
theorem dX1_find_87 : decode cX1_find 87 = .ok (.ifCond .eq 12, 3) := by decide +kernel
theorem dX1_find_90 : decode cX1_find 90 = .ok (.aload_n 0, 1) := by decide +kernel
theorem dX1_find_91 : decode cX1_find 91 = .ok (.aload_n 1, 1) := by decide +kernel
theorem dX1_find_92 : decode cX1_find 92 = .ok (.iload_n 3, 1) := by decide +kernel
theorem dX1_find_93 : decode cX1_find 93 = .ok (.invokevirtual 49, 3) := by decide +kernel
theorem dX1_find_96 : decode cX1_find 96 = .ok (.goto 4, 3) := by decide +kernel
theorem dX1_find_99 : decode cX1_find 99 = .ok (.iconst 0, 1) := by decide +kernel
theorem dX1_find_100 : decode cX1_find 100 = .ok (.iastore, 1) := by decide +kernel
theorem dX1_find_101 : decode cX1_find 101 = .ok (.aload_n 0, 1) := by decide +kernel
theorem dX1_find_102 : decode cX1_find 102 = .ok (.getfield 15, 3) := by decide +kernel
theorem dX1_find_105 : decode cX1_find 105 = .ok (.iload_n 3, 1) := by decide +kernel
theorem dX1_find_106 : decode cX1_find 106 = .ok (.aload_n 0, 1) := by decide +kernel
theorem dX1_find_107 : decode cX1_find 107 = .ok (.getfield 15, 3) := by decide +kernel
theorem dX1_find_110 : decode cX1_find 110 = .ok (.iload_n 3, 1) := by decide +kernel
theorem dX1_find_111 : decode cX1_find 111 = .ok (.iconst 1, 1) := by decide +kernel
theorem dX1_find_112 : decode cX1_find 112 = .ok (.iadd, 1) := by decide +kernel
theorem dX1_find_113 : decode cX1_find 113 = .ok (.iaload, 1) := by decide +kernel
theorem dX1_find_114 : decode cX1_find 114 = .ok (.aload_n 0, 1) := by decide +kernel
theorem dX1_find_115 : decode cX1_find 115 = .ok (.getfield 9, 3) := by decide +kernel
theorem dX1_find_118 : decode cX1_find 118 = .ok (.iload_n 3, 1) := by decide +kernel
theorem dX1_find_119 : decode cX1_find 119 = .ok (.iaload, 1) := by decide +kernel
theorem dX1_find_120 : decode cX1_find 120 = .ok (.ifCond .ne 7, 3) := by decide +kernel
theorem dX1_find_123 : decode cX1_find 123 = .ok (.iconst 0, 1) := by decide +kernel
theorem dX1_find_124 : decode cX1_find 124 = .ok (.goto 11, 3) := by decide +kernel
theorem dX1_find_127 : decode cX1_find 127 = .ok (.aload_n 0, 1) := by decide +kernel
theorem dX1_find_128 : decode cX1_find 128 = .ok (.getfield 27, 3) := by decide +kernel
theorem dX1_find_131 : decode cX1_find 131 = .ok (.iload_n 3, 1) := by decide +kernel
theorem dX1_find_132 : decode cX1_find 132 = .ok (.invokevirtual 53, 3) := by decide +kernel
theorem dX1_find_135 : decode cX1_find 135 = .ok (.iadd, 1) := by decide +kernel
theorem dX1_find_136 : decode cX1_find 136 = .ok (.iastore, 1) := by decide +kernel
theorem dX1_find_137 : decode cX1_find 137 = .ok (.iinc 3 (-1), 3) := by decide +kernel
theorem dX1_find_140 : decode cX1_find 140 = .ok (.goto (-70), 3) := by decide +kernel
theorem dX1_find_143 : decode cX1_find 143 = .ok (.aload_n 0, 1) := by decide +kernel
theorem dX1_find_144 : decode cX1_find 144 = .ok (.iconst (-1), 1) := by decide +kernel
theorem dX1_find_145 : decode cX1_find 145 = .ok (.putfield 56, 3) := by decide +kernel
theorem dX1_find_148 : decode cX1_find 148 = .ok (.aload_n 0, 1) := by decide +kernel
theorem dX1_find_149 : decode cX1_find 149 = .ok (.iconst 0, 1) := by decide +kernel
theorem dX1_find_150 : decode cX1_find 150 = .ok (.iconst 0, 1) := by decide +kernel
theorem dX1_find_151 : decode cX1_find 151 = .ok (.iload_n 2, 1) := by decide +kernel
theorem dX1_find_152 : decode cX1_find 152 = .ok (.invokestatic 60, 3) := by decide +kernel
theorem dX1_find_155 : decode cX1_find 155 = .ok (.return_, 1) := by decide +kernel
theorem dX1_takersOf_0 : decode cX1_takersOf 0 = .ok (.iconst 0, 1) := by decide +kernel
theorem dX1_takersOf_1 : decode cX1_takersOf 1 = .ok (.istore_n 3, 1) := by decide +kernel
theorem dX1_takersOf_2 : decode cX1_takersOf 2 = .ok (.iconst 0, 1) := by decide +kernel
theorem dX1_takersOf_3 : decode cX1_takersOf 3 = .ok (.istore 4, 2) := by decide +kernel
theorem dX1_takersOf_5 : decode cX1_takersOf 5 = .ok (.iload 4, 2) := by decide +kernel
theorem dX1_takersOf_7 : decode cX1_takersOf 7 = .ok (.aload_n 0, 1) := by decide +kernel
theorem dX1_takersOf_8 : decode cX1_takersOf 8 = .ok (.getfield 27, 3) := by decide +kernel
theorem dX1_takersOf_11 : decode cX1_takersOf 11 = .ok (.getfield 64, 3) := by decide +kernel
theorem dX1_takersOf_14 : decode cX1_takersOf 14 = .ok (.if_icmp .ge 30, 3) := by decide +kernel
theorem dX1_takersOf_17 : decode cX1_takersOf 17 = .ok (.aload_n 0, 1) := by decide +kernel
theorem dX1_takersOf_18 : decode cX1_takersOf 18 = .ok (.getfield 27, 3) := by decide +kernel
theorem dX1_takersOf_21 : decode cX1_takersOf 21 = .ok (.aload_n 1, 1) := by decide +kernel
theorem dX1_takersOf_22 : decode cX1_takersOf 22 = .ok (.iload 4, 2) := by decide +kernel
theorem dX1_takersOf_24 : decode cX1_takersOf 24 = .ok (.iload_n 2, 1) := by decide +kernel
theorem dX1_takersOf_25 : decode cX1_takersOf 25 = .ok (.invokevirtual 67, 3) := by decide +kernel
theorem dX1_takersOf_28 : decode cX1_takersOf 28 = .ok (.ifCond .eq 10, 3) := by decide +kernel
theorem dX1_takersOf_31 : decode cX1_takersOf 31 = .ok (.iload_n 3, 1) := by decide +kernel
theorem dX1_takersOf_32 : decode cX1_takersOf 32 = .ok (.iconst 1, 1) := by decide +kernel
theorem dX1_takersOf_33 : decode cX1_takersOf 33 = .ok (.iload 4, 2) := by decide +kernel
theorem dX1_takersOf_35 : decode cX1_takersOf 35 = .ok (.ishl, 1) := by decide +kernel
theorem dX1_takersOf_36 : decode cX1_takersOf 36 = .ok (.ior, 1) := by decide +kernel
theorem dX1_takersOf_37 : decode cX1_takersOf 37 = .ok (.istore_n 3, 1) := by decide +kernel
theorem dX1_takersOf_38 : decode cX1_takersOf 38 = .ok (.iinc 4 1, 3) := by decide +kernel
theorem dX1_takersOf_41 : decode cX1_takersOf 41 = .ok (.goto (-36), 3) := by decide +kernel
theorem dX1_takersOf_44 : decode cX1_takersOf 44 = .ok (.iload_n 3, 1) := by decide +kernel
theorem dX1_takersOf_45 : decode cX1_takersOf 45 = .ok (.ireturn, 1) := by decide +kernel
theorem dX1_deal_0 : decode cX1_deal 0 = .ok (.iload_n 1, 1) := by decide +kernel
theorem dX1_deal_1 : decode cX1_deal 1 = .ok (.ifCond .lt 9, 3) := by decide +kernel
theorem dX1_deal_4 : decode cX1_deal 4 = .ok (.iload_n 1, 1) := by decide +kernel
theorem dX1_deal_5 : decode cX1_deal 5 = .ok (.bipush 8, 2) := by decide +kernel
theorem dX1_deal_7 : decode cX1_deal 7 = .ok (.if_icmp .lt 9, 3) := by decide +kernel
theorem dX1_deal_10 : decode cX1_deal 10 = .ok (.aload_n 0, 1) := by decide +kernel
theorem dX1_deal_11 : decode cX1_deal 11 = .ok (.iload_n 2, 1) := by decide +kernel
theorem dX1_deal_12 : decode cX1_deal 12 = .ok (.invokevirtual 71, 3) := by decide +kernel
theorem dX1_deal_15 : decode cX1_deal 15 = .ok (.return_, 1) := by decide +kernel
theorem dX1_deal_16 : decode cX1_deal 16 = .ok (.iload_n 2, 1) := by decide +kernel
theorem dX1_deal_17 : decode cX1_deal 17 = .ok (.aload_n 0, 1) := by decide +kernel
theorem dX1_deal_18 : decode cX1_deal 18 = .ok (.getfield 15, 3) := by decide +kernel
theorem dX1_deal_21 : decode cX1_deal 21 = .ok (.iload_n 1, 1) := by decide +kernel
theorem dX1_deal_22 : decode cX1_deal 22 = .ok (.iaload, 1) := by decide +kernel
theorem dX1_deal_23 : decode cX1_deal 23 = .ok (.iload_n 3, 1) := by decide +kernel
theorem dX1_deal_24 : decode cX1_deal 24 = .ok (.invokestatic 75, 3) := by decide +kernel
theorem dX1_deal_27 : decode cX1_deal 27 = .ok (.iadd, 1) := by decide +kernel
theorem dX1_deal_28 : decode cX1_deal 28 = .ok (.aload_n 0, 1) := by decide +kernel
theorem dX1_deal_29 : decode cX1_deal 29 = .ok (.getfield 56, 3) := by decide +kernel
theorem dX1_deal_32 : decode cX1_deal 32 = .ok (.if_icmp .gt 4, 3) := by decide +kernel
theorem dX1_deal_35 : decode cX1_deal 35 = .ok (.return_, 1) := by decide +kernel
theorem dX1_deal_36 : decode cX1_deal 36 = .ok (.aload_n 0, 1) := by decide +kernel
theorem dX1_deal_37 : decode cX1_deal 37 = .ok (.getfield 27, 3) := by decide +kernel
theorem dX1_deal_40 : decode cX1_deal 40 = .ok (.iload_n 1, 1) := by decide +kernel
theorem dX1_deal_41 : decode cX1_deal 41 = .ok (.invokevirtual 53, 3) := by decide +kernel
theorem dX1_deal_44 : decode cX1_deal 44 = .ok (.istore 4, 2) := by decide +kernel
theorem dX1_deal_46 : decode cX1_deal 46 = .ok (.iconst 0, 1) := by decide +kernel
theorem dX1_deal_47 : decode cX1_deal 47 = .ok (.istore 5, 2) := by decide +kernel
theorem dX1_deal_49 : decode cX1_deal 49 = .ok (.iload 5, 2) := by decide +kernel
theorem dX1_deal_51 : decode cX1_deal 51 = .ok (.iconst 4, 1) := by decide +kernel
theorem dX1_deal_52 : decode cX1_deal 52 = .ok (.if_icmp .ge 83, 3) := by decide +kernel
theorem dX1_deal_55 : decode cX1_deal 55 = .ok (.aload_n 0, 1) := by decide +kernel
theorem dX1_deal_56 : decode cX1_deal 56 = .ok (.getfield 9, 3) := by decide +kernel
theorem dX1_deal_59 : decode cX1_deal 59 = .ok (.iload_n 1, 1) := by decide +kernel
theorem dX1_deal_60 : decode cX1_deal 60 = .ok (.iaload, 1) := by decide +kernel
theorem dX1_deal_61 : decode cX1_deal 61 = .ok (.iload 5, 2) := by decide +kernel
theorem dX1_deal_63 : decode cX1_deal 63 = .ok (.ishr, 1) := by decide +kernel
theorem dX1_deal_64 : decode cX1_deal 64 = .ok (.iconst 1, 1) := by decide +kernel
theorem dX1_deal_65 : decode cX1_deal 65 = .ok (.iand, 1) := by decide +kernel
theorem dX1_deal_66 : decode cX1_deal 66 = .ok (.iconst 1, 1) := by decide +kernel
theorem dX1_deal_67 : decode cX1_deal 67 = .ok (.if_icmp .ne 62, 3) := by decide +kernel
theorem dX1_deal_70 : decode cX1_deal 70 = .ok (.iload 4, 2) := by decide +kernel
theorem dX1_deal_72 : decode cX1_deal 72 = .ok (.aload_n 0, 1) := by decide +kernel
theorem dX1_deal_73 : decode cX1_deal 73 = .ok (.getfield 18, 3) := by decide +kernel
theorem dX1_deal_76 : decode cX1_deal 76 = .ok (.iload 5, 2) := by decide +kernel
theorem dX1_deal_78 : decode cX1_deal 78 = .ok (.iaload, 1) := by decide +kernel
theorem dX1_deal_79 : decode cX1_deal 79 = .ok (.if_icmp .gt 50, 3) := by decide +kernel
theorem dX1_deal_82 : decode cX1_deal 82 = .ok (.aload_n 0, 1) := by decide +kernel
theorem dX1_deal_83 : decode cX1_deal 83 = .ok (.getfield 18, 3) := by decide +kernel
theorem dX1_deal_86 : decode cX1_deal 86 = .ok (.iload 5, 2) := by decide +kernel
theorem dX1_deal_88 : decode cX1_deal 88 = .ok (.dup2, 1) := by decide +kernel
theorem dX1_deal_89 : decode cX1_deal 89 = .ok (.iaload, 1) := by decide +kernel
theorem dX1_deal_90 : decode cX1_deal 90 = .ok (.iload 4, 2) := by decide +kernel
theorem dX1_deal_92 : decode cX1_deal 92 = .ok (.isub, 1) := by decide +kernel
theorem dX1_deal_93 : decode cX1_deal 93 = .ok (.iastore, 1) := by decide +kernel
theorem dX1_deal_94 : decode cX1_deal 94 = .ok (.aload_n 0, 1) := by decide +kernel
theorem dX1_deal_95 : decode cX1_deal 95 = .ok (.getfield 21, 3) := by decide +kernel
theorem dX1_deal_98 : decode cX1_deal 98 = .ok (.iload_n 1, 1) := by decide +kernel
theorem dX1_deal_99 : decode cX1_deal 99 = .ok (.iload 5, 2) := by decide +kernel
theorem dX1_deal_101 : decode cX1_deal 101 = .ok (.iastore, 1) := by decide +kernel
theorem dX1_deal_102 : decode cX1_deal 102 = .ok (.aload_n 0, 1) := by decide +kernel
theorem dX1_deal_103 : decode cX1_deal 103 = .ok (.iload_n 1, 1) := by decide +kernel
theorem dX1_deal_104 : decode cX1_deal 104 = .ok (.iconst 1, 1) := by decide +kernel
theorem dX1_deal_105 : decode cX1_deal 105 = .ok (.iadd, 1) := by decide +kernel
theorem dX1_deal_106 : decode cX1_deal 106 = .ok (.iload_n 2, 1) := by decide +kernel
theorem dX1_deal_107 : decode cX1_deal 107 = .ok (.iload 4, 2) := by decide +kernel
theorem dX1_deal_109 : decode cX1_deal 109 = .ok (.iadd, 1) := by decide +kernel
theorem dX1_deal_110 : decode cX1_deal 110 = .ok (.iload_n 3, 1) := by decide +kernel
theorem dX1_deal_111 : decode cX1_deal 111 = .ok (.iload 4, 2) := by decide +kernel
theorem dX1_deal_113 : decode cX1_deal 113 = .ok (.isub, 1) := by decide +kernel
theorem dX1_deal_114 : decode cX1_deal 114 = .ok (.invokestatic 60, 3) := by decide +kernel
theorem dX1_deal_117 : decode cX1_deal 117 = .ok (.aload_n 0, 1) := by decide +kernel
theorem dX1_deal_118 : decode cX1_deal 118 = .ok (.getfield 18, 3) := by decide +kernel
theorem dX1_deal_121 : decode cX1_deal 121 = .ok (.iload 5, 2) := by decide +kernel
theorem dX1_deal_123 : decode cX1_deal 123 = .ok (.dup2, 1) := by decide +kernel
theorem dX1_deal_124 : decode cX1_deal 124 = .ok (.iaload, 1) := by decide +kernel
theorem dX1_deal_125 : decode cX1_deal 125 = .ok (.iload 4, 2) := by decide +kernel
theorem dX1_deal_127 : decode cX1_deal 127 = .ok (.iadd, 1) := by decide +kernel
theorem dX1_deal_128 : decode cX1_deal 128 = .ok (.iastore, 1) := by decide +kernel
theorem dX1_deal_129 : decode cX1_deal 129 = .ok (.iinc 5 1, 3) := by decide +kernel
theorem dX1_deal_132 : decode cX1_deal 132 = .ok (.goto (-83), 3) := by decide +kernel
theorem dX1_deal_135 : decode cX1_deal 135 = .ok (.aload_n 0, 1) := by decide +kernel
theorem dX1_deal_136 : decode cX1_deal 136 = .ok (.getfield 21, 3) := by decide +kernel
theorem dX1_deal_139 : decode cX1_deal 139 = .ok (.iload_n 1, 1) := by decide +kernel
theorem dX1_deal_140 : decode cX1_deal 140 = .ok (.bipush (-4), 2) := by decide +kernel
theorem dX1_deal_142 : decode cX1_deal 142 = .ok (.iastore, 1) := by decide +kernel
theorem dX1_deal_143 : decode cX1_deal 143 = .ok (.aload_n 0, 1) := by decide +kernel
theorem dX1_deal_144 : decode cX1_deal 144 = .ok (.iload_n 1, 1) := by decide +kernel
theorem dX1_deal_145 : decode cX1_deal 145 = .ok (.iconst 1, 1) := by decide +kernel
theorem dX1_deal_146 : decode cX1_deal 146 = .ok (.iadd, 1) := by decide +kernel
theorem dX1_deal_147 : decode cX1_deal 147 = .ok (.iload_n 2, 1) := by decide +kernel
theorem dX1_deal_148 : decode cX1_deal 148 = .ok (.iload_n 3, 1) := by decide +kernel
theorem dX1_deal_149 : decode cX1_deal 149 = .ok (.invokestatic 60, 3) := by decide +kernel
theorem dX1_deal_152 : decode cX1_deal 152 = .ok (.return_, 1) := by decide +kernel
theorem dX1_keepIfBetter_0 : decode cX1_keepIfBetter 0 = .ok (.iload_n 1, 1) := by decide +kernel
theorem dX1_keepIfBetter_1 : decode cX1_keepIfBetter 1 = .ok (.aload_n 0, 1) := by decide +kernel
theorem dX1_keepIfBetter_2 : decode cX1_keepIfBetter 2 = .ok (.getfield 56, 3) := by decide +kernel
theorem dX1_keepIfBetter_5 : decode cX1_keepIfBetter 5 = .ok (.if_icmp .le 23, 3) := by decide +kernel
theorem dX1_keepIfBetter_8 : decode cX1_keepIfBetter 8 = .ok (.aload_n 0, 1) := by decide +kernel
theorem dX1_keepIfBetter_9 : decode cX1_keepIfBetter 9 = .ok (.iload_n 1, 1) := by decide +kernel
theorem dX1_keepIfBetter_10 : decode cX1_keepIfBetter 10 = .ok (.putfield 56, 3) := by decide +kernel
theorem dX1_keepIfBetter_13 : decode cX1_keepIfBetter 13 = .ok (.aload_n 0, 1) := by decide +kernel
theorem dX1_keepIfBetter_14 : decode cX1_keepIfBetter 14 = .ok (.getfield 21, 3) := by decide +kernel
theorem dX1_keepIfBetter_17 : decode cX1_keepIfBetter 17 = .ok (.iconst 0, 1) := by decide +kernel
theorem dX1_keepIfBetter_18 : decode cX1_keepIfBetter 18 = .ok (.aload_n 0, 1) := by decide +kernel
theorem dX1_keepIfBetter_19 : decode cX1_keepIfBetter 19 = .ok (.getfield 24, 3) := by decide +kernel
theorem dX1_keepIfBetter_22 : decode cX1_keepIfBetter 22 = .ok (.iconst 0, 1) := by decide +kernel
theorem dX1_keepIfBetter_23 : decode cX1_keepIfBetter 23 = .ok (.bipush 8, 2) := by decide +kernel
theorem dX1_keepIfBetter_25 : decode cX1_keepIfBetter 25 = .ok (.invokestatic 81, 3) := by decide +kernel
theorem dX1_keepIfBetter_28 : decode cX1_keepIfBetter 28 = .ok (.return_, 1) := by decide +kernel
theorem dX2_init_0 : decode cX2_init 0 = .ok (.aload_n 0, 1) := by decide +kernel
theorem dX2_init_1 : decode cX2_init 1 = .ok (.invokespecial 3, 3) := by decide +kernel
theorem dX2_init_4 : decode cX2_init 4 = .ok (.aload_n 0, 1) := by decide +kernel
theorem dX2_init_5 : decode cX2_init 5 = .ok (.bipush 8, 2) := by decide +kernel
theorem dX2_init_7 : decode cX2_init 7 = .ok (.newarray .int, 2) := by decide +kernel
theorem dX2_init_9 : decode cX2_init 9 = .ok (.putfield 9, 3) := by decide +kernel
theorem dX2_init_12 : decode cX2_init 12 = .ok (.aload_n 0, 1) := by decide +kernel
theorem dX2_init_13 : decode cX2_init 13 = .ok (.bipush 8, 2) := by decide +kernel
theorem dX2_init_15 : decode cX2_init 15 = .ok (.newarray .int, 2) := by decide +kernel
theorem dX2_init_17 : decode cX2_init 17 = .ok (.putfield 15, 3) := by decide +kernel
theorem dX2_init_20 : decode cX2_init 20 = .ok (.aload_n 0, 1) := by decide +kernel
theorem dX2_init_21 : decode cX2_init 21 = .ok (.bipush 8, 2) := by decide +kernel
theorem dX2_init_23 : decode cX2_init 23 = .ok (.newarray .int, 2) := by decide +kernel
theorem dX2_init_25 : decode cX2_init 25 = .ok (.putfield 18, 3) := by decide +kernel
theorem dX2_init_28 : decode cX2_init 28 = .ok (.aload_n 0, 1) := by decide +kernel
theorem dX2_init_29 : decode cX2_init 29 = .ok (.iconst 4, 1) := by decide +kernel
theorem dX2_init_30 : decode cX2_init 30 = .ok (.newarray .int, 2) := by decide +kernel
theorem dX2_init_32 : decode cX2_init 32 = .ok (.putfield 21, 3) := by decide +kernel
theorem dX2_init_35 : decode cX2_init 35 = .ok (.aload_n 0, 1) := by decide +kernel
theorem dX2_init_36 : decode cX2_init 36 = .ok (.iconst 4, 1) := by decide +kernel
theorem dX2_init_37 : decode cX2_init 37 = .ok (.newarray .int, 2) := by decide +kernel
theorem dX2_init_39 : decode cX2_init 39 = .ok (.putfield 24, 3) := by decide +kernel
theorem dX2_init_42 : decode cX2_init 42 = .ok (.return_, 1) := by decide +kernel
theorem dX2_read_0 : decode cX2_read 0 = .ok (.aload_n 0, 1) := by decide +kernel
theorem dX2_read_1 : decode cX2_read 1 = .ok (.iconst 0, 1) := by decide +kernel
theorem dX2_read_2 : decode cX2_read 2 = .ok (.putfield 27, 3) := by decide +kernel
theorem dX2_read_5 : decode cX2_read 5 = .ok (.aload_n 0, 1) := by decide +kernel
theorem dX2_read_6 : decode cX2_read 6 = .ok (.iconst 0, 1) := by decide +kernel
theorem dX2_read_7 : decode cX2_read 7 = .ok (.putfield 31, 3) := by decide +kernel
theorem dX2_read_10 : decode cX2_read 10 = .ok (.aload_n 0, 1) := by decide +kernel
theorem dX2_read_11 : decode cX2_read 11 = .ok (.bipush 20, 2) := by decide +kernel
theorem dX2_read_13 : decode cX2_read 13 = .ok (.putfield 34, 3) := by decide +kernel
theorem dX2_read_16 : decode cX2_read 16 = .ok (.aload_n 0, 1) := by decide +kernel
theorem dX2_read_17 : decode cX2_read 17 = .ok (.iconst 3, 1) := by decide +kernel
theorem dX2_read_18 : decode cX2_read 18 = .ok (.putfield 37, 3) := by decide +kernel
theorem dX2_read_21 : decode cX2_read 21 = .ok (.aload_n 0, 1) := by decide +kernel
theorem dX2_read_22 : decode cX2_read 22 = .ok (.bipush 10, 2) := by decide +kernel
theorem dX2_read_24 : decode cX2_read 24 = .ok (.putfield 40, 3) := by decide +kernel
theorem dX2_read_27 : decode cX2_read 27 = .ok (.aload_n 2, 1) := by decide +kernel
theorem dX2_read_28 : decode cX2_read 28 = .ok (.invokevirtual 43, 3) := by decide +kernel
theorem dX2_read_31 : decode cX2_read 31 = .ok (.iconst 0, 1) := by decide +kernel
theorem dX2_read_32 : decode cX2_read 32 = .ok (.istore_n 3, 1) := by decide +kernel
theorem dX2_read_33 : decode cX2_read 33 = .ok (.iconst 0, 1) := by decide +kernel
theorem dX2_read_34 : decode cX2_read 34 = .ok (.istore 4, 2) := by decide +kernel
theorem dX2_read_36 : decode cX2_read 36 = .ok (.iload 4, 2) := by decide +kernel
theorem dX2_read_38 : decode cX2_read 38 = .ok (.sipush 200, 3) := by decide +kernel
theorem dX2_read_41 : decode cX2_read 41 = .ok (.if_icmp .ge 42, 3) := by decide +kernel
theorem dX2_read_44 : decode cX2_read 44 = .ok (.iload_n 3, 1) := by decide +kernel
theorem dX2_read_45 : decode cX2_read 45 = .ok (.ifCond .lt 38, 3) := by decide +kernel
theorem dX2_read_48 : decode cX2_read 48 = .ok (.iload_n 3, 1) := by decide +kernel
theorem dX2_read_49 : decode cX2_read 49 = .ok (.aload_n 1, 1) := by decide +kernel
theorem dX2_read_50 : decode cX2_read 50 = .ok (.getfield 50, 3) := by decide +kernel
theorem dX2_read_53 : decode cX2_read 53 = .ok (.if_icmp .ge 30, 3) := by decide +kernel
theorem dX2_read_56 : decode cX2_read 56 = .ok (.aload_n 1, 1) := by decide +kernel
theorem dX2_read_57 : decode cX2_read 57 = .ok (.iload_n 3, 1) := by decide +kernel
theorem dX2_read_58 : decode cX2_read 58 = .ok (.invokevirtual 53, 3) := by decide +kernel
theorem dX2_read_61 : decode cX2_read 61 = .ok (.istore 5, 2) := by decide +kernel
theorem dX2_read_63 : decode cX2_read 63 = .ok (.aload_n 0, 1) := by decide +kernel
theorem dX2_read_64 : decode cX2_read 64 = .ok (.aload_n 1, 1) := by decide +kernel
theorem dX2_read_65 : decode cX2_read 65 = .ok (.iload_n 3, 1) := by decide +kernel
theorem dX2_read_66 : decode cX2_read 66 = .ok (.invokevirtual 57, 3) := by decide +kernel
theorem dX2_read_69 : decode cX2_read 69 = .ok (.aload_n 1, 1) := by decide +kernel
theorem dX2_read_70 : decode cX2_read 70 = .ok (.aload_n 2, 1) := by decide +kernel
theorem dX2_read_71 : decode cX2_read 71 = .ok (.invokevirtual 61, 3) := by decide +kernel
theorem dX2_read_74 : decode cX2_read 74 = .ok (.iload 5, 2) := by decide +kernel
theorem dX2_read_76 : decode cX2_read 76 = .ok (.istore_n 3, 1) := by decide +kernel
theorem dX2_read_77 : decode cX2_read 77 = .ok (.iinc 4 1, 3) := by decide +kernel
theorem dX2_read_80 : decode cX2_read 80 = .ok (.goto (-44), 3) := by decide +kernel
theorem dX2_read_83 : decode cX2_read 83 = .ok (.return_, 1) := by decide +kernel
theorem dX2_put_0 : decode cX2_put 0 = .ok (.iload_n 1, 1) := by decide +kernel
theorem dX2_put_1 : decode cX2_put 1 = .ok (.bipush 98, 2) := by decide +kernel
theorem dX2_put_3 : decode cX2_put 3 = .ok (.if_icmp .ne 12, 3) := by decide +kernel
theorem dX2_put_6 : decode cX2_put 6 = .ok (.aload_n 0, 1) := by decide +kernel
theorem dX2_put_7 : decode cX2_put 7 = .ok (.aload_n 2, 1) := by decide +kernel
theorem dX2_put_8 : decode cX2_put 8 = .ok (.aload_n 3, 1) := by decide +kernel
theorem dX2_put_9 : decode cX2_put 9 = .ok (.invokevirtual 65, 3) := by decide +kernel
theorem dX2_put_12 : decode cX2_put 12 = .ok (.goto 60, 3) := by decide +kernel
theorem dX2_put_15 : decode cX2_put 15 = .ok (.iload_n 1, 1) := by decide +kernel
theorem dX2_put_16 : decode cX2_put 16 = .ok (.bipush 116, 2) := by decide +kernel
theorem dX2_put_18 : decode cX2_put 18 = .ok (.if_icmp .ne 12, 3) := by decide +kernel
theorem dX2_put_21 : decode cX2_put 21 = .ok (.aload_n 0, 1) := by decide +kernel
theorem dX2_put_22 : decode cX2_put 22 = .ok (.aload_n 2, 1) := by decide +kernel
theorem dX2_put_23 : decode cX2_put 23 = .ok (.aload_n 3, 1) := by decide +kernel
theorem dX2_put_24 : decode cX2_put 24 = .ok (.invokevirtual 69, 3) := by decide +kernel
theorem dX2_put_27 : decode cX2_put 27 = .ok (.goto 45, 3) := by decide +kernel
theorem dX2_put_30 : decode cX2_put 30 = .ok (.iload_n 1, 1) := by decide +kernel
theorem dX2_put_31 : decode cX2_put 31 = .ok (.bipush 107, 2) := by decide +kernel
theorem dX2_put_33 : decode cX2_put 33 = .ok (.if_icmp .ne 24, 3) := by decide +kernel
theorem dX2_put_36 : decode cX2_put 36 = .ok (.aload_n 0, 1) := by decide +kernel
theorem dX2_put_37 : decode cX2_put 37 = .ok (.aload_n 2, 1) := by decide +kernel
theorem dX2_put_38 : decode cX2_put 38 = .ok (.iconst 0, 1) := by decide +kernel
theorem dX2_put_39 : decode cX2_put 39 = .ok (.invokevirtual 72, 3) := by decide +kernel
theorem dX2_put_42 : decode cX2_put 42 = .ok (.putfield 34, 3) := by decide +kernel
theorem dX2_put_45 : decode cX2_put 45 = .ok (.aload_n 0, 1) := by decide +kernel
theorem dX2_put_46 : decode cX2_put 46 = .ok (.aload_n 2, 1) := by decide +kernel
theorem dX2_put_47 : decode cX2_put 47 = .ok (.iconst 1, 1) := by decide +kernel
theorem dX2_put_48 : decode cX2_put 48 = .ok (.invokevirtual 72, 3) := by decide +kernel
theorem dX2_put_51 : decode cX2_put 51 = .ok (.putfield 37, 3) := by decide +kernel
theorem dX2_put_54 : decode cX2_put 54 = .ok (.goto 18, 3) := by decide +kernel
theorem dX2_put_57 : decode cX2_put 57 = .ok (.iload_n 1, 1) := by decide +kernel
theorem dX2_put_58 : decode cX2_put 58 = .ok (.bipush 102, 2) := by decide +kernel
theorem dX2_put_60 : decode cX2_put 60 = .ok (.if_icmp .ne 12, 3) := by decide +kernel
theorem dX2_put_63 : decode cX2_put 63 = .ok (.aload_n 0, 1) := by decide +kernel
theorem dX2_put_64 : decode cX2_put 64 = .ok (.aload_n 2, 1) := by decide +kernel
theorem dX2_put_65 : decode cX2_put 65 = .ok (.iconst 0, 1) := by decide +kernel
theorem dX2_put_66 : decode cX2_put 66 = .ok (.invokevirtual 72, 3) := by decide +kernel
theorem dX2_put_69 : decode cX2_put 69 = .ok (.putfield 40, 3) := by decide +kernel
theorem dX2_put_72 : decode cX2_put 72 = .ok (.return_, 1) := by decide +kernel
theorem dX2_putBough_0 : decode cX2_putBough 0 = .ok (.aload_n 0, 1) := by decide +kernel
theorem dX2_putBough_1 : decode cX2_putBough 1 = .ok (.getfield 27, 3) := by decide +kernel
theorem dX2_putBough_4 : decode cX2_putBough 4 = .ok (.ifCond .lt 77, 3) := by decide +kernel
theorem dX2_putBough_7 : decode cX2_putBough 7 = .ok (.aload_n 0, 1) := by decide +kernel
theorem dX2_putBough_8 : decode cX2_putBough 8 = .ok (.getfield 27, 3) := by decide +kernel
theorem dX2_putBough_11 : decode cX2_putBough 11 = .ok (.bipush 8, 2) := by decide +kernel
theorem dX2_putBough_13 : decode cX2_putBough 13 = .ok (.if_icmp .ge 68, 3) := by decide +kernel
theorem dX2_putBough_16 : decode cX2_putBough 16 = .ok (.aload_n 0, 1) := by decide +kernel
theorem dX2_putBough_17 : decode cX2_putBough 17 = .ok (.getfield 9, 3) := by decide +kernel
theorem dX2_putBough_20 : decode cX2_putBough 20 = .ok (.aload_n 0, 1) := by decide +kernel
theorem dX2_putBough_21 : decode cX2_putBough 21 = .ok (.getfield 27, 3) := by decide +kernel
theorem dX2_putBough_24 : decode cX2_putBough 24 = .ok (.aload_n 1, 1) := by decide +kernel
theorem dX2_putBough_25 : decode cX2_putBough 25 = .ok (.iconst 0, 1) := by decide +kernel
theorem dX2_putBough_26 : decode cX2_putBough 26 = .ok (.invokevirtual 72, 3) := by decide +kernel
theorem dX2_putBough_29 : decode cX2_putBough 29 = .ok (.iastore, 1) := by decide +kernel
theorem dX2_putBough_30 : decode cX2_putBough 30 = .ok (.aload_n 0, 1) := by decide +kernel
theorem dX2_putBough_31 : decode cX2_putBough 31 = .ok (.getfield 15, 3) := by decide +kernel
theorem dX2_putBough_34 : decode cX2_putBough 34 = .ok (.aload_n 0, 1) := by decide +kernel
theorem dX2_putBough_35 : decode cX2_putBough 35 = .ok (.getfield 27, 3) := by decide +kernel
theorem dX2_putBough_38 : decode cX2_putBough 38 = .ok (.aload_n 1, 1) := by decide +kernel
theorem dX2_putBough_39 : decode cX2_putBough 39 = .ok (.iconst 1, 1) := by decide +kernel
theorem dX2_putBough_40 : decode cX2_putBough 40 = .ok (.invokevirtual 72, 3) := by decide +kernel
theorem dX2_putBough_43 : decode cX2_putBough 43 = .ok (.iastore, 1) := by decide +kernel
theorem dX2_putBough_44 : decode cX2_putBough 44 = .ok (.aload_n 0, 1) := by decide +kernel
theorem dX2_putBough_45 : decode cX2_putBough 45 = .ok (.getfield 18, 3) := by decide +kernel
theorem dX2_putBough_48 : decode cX2_putBough 48 = .ok (.aload_n 0, 1) := by decide +kernel
theorem dX2_putBough_49 : decode cX2_putBough 49 = .ok (.getfield 27, 3) := by decide +kernel
theorem dX2_putBough_52 : decode cX2_putBough 52 = .ok (.aload_n 1, 1) := by decide +kernel
theorem dX2_putBough_53 : decode cX2_putBough 53 = .ok (.iconst 2, 1) := by decide +kernel
theorem dX2_putBough_54 : decode cX2_putBough 54 = .ok (.invokevirtual 72, 3) := by decide +kernel
theorem dX2_putBough_57 : decode cX2_putBough 57 = .ok (.iastore, 1) := by decide +kernel
theorem dX2_putBough_58 : decode cX2_putBough 58 = .ok (.aload_n 2, 1) := by decide +kernel
theorem dX2_putBough_59 : decode cX2_putBough 59 = .ok (.aload_n 0, 1) := by decide +kernel
theorem dX2_putBough_60 : decode cX2_putBough 60 = .ok (.getfield 27, 3) := by decide +kernel
theorem dX2_putBough_63 : decode cX2_putBough 63 = .ok (.aload_n 1, 1) := by decide +kernel
theorem dX2_putBough_64 : decode cX2_putBough 64 = .ok (.iconst 3, 1) := by decide +kernel
theorem dX2_putBough_65 : decode cX2_putBough 65 = .ok (.invokevirtual 72, 3) := by decide +kernel
theorem dX2_putBough_68 : decode cX2_putBough 68 = .ok (.invokevirtual 75, 3) := by decide +kernel
theorem dX2_putBough_71 : decode cX2_putBough 71 = .ok (.aload_n 0, 1) := by decide +kernel
theorem dX2_putBough_72 : decode cX2_putBough 72 = .ok (.dup, 1) := by decide +kernel
theorem dX2_putBough_73 : decode cX2_putBough 73 = .ok (.getfield 27, 3) := by decide +kernel
theorem dX2_putBough_76 : decode cX2_putBough 76 = .ok (.iconst 1, 1) := by decide +kernel
theorem dX2_putBough_77 : decode cX2_putBough 77 = .ok (.iadd, 1) := by decide +kernel
theorem dX2_putBough_78 : decode cX2_putBough 78 = .ok (.putfield 27, 3) := by decide +kernel
theorem dX2_putBough_81 : decode cX2_putBough 81 = .ok (.return_, 1) := by decide +kernel
theorem dX2_putTenant_0 : decode cX2_putTenant 0 = .ok (.aload_n 0, 1) := by decide +kernel
theorem dX2_putTenant_1 : decode cX2_putTenant 1 = .ok (.getfield 31, 3) := by decide +kernel
theorem dX2_putTenant_4 : decode cX2_putTenant 4 = .ok (.ifCond .lt 62, 3) := by decide +kernel
theorem dX2_putTenant_7 : decode cX2_putTenant 7 = .ok (.aload_n 0, 1) := by decide +kernel
theorem dX2_putTenant_8 : decode cX2_putTenant 8 = .ok (.getfield 31, 3) := by decide +kernel
theorem dX2_putTenant_11 : decode cX2_putTenant 11 = .ok (.iconst 4, 1) := by decide +kernel
theorem dX2_putTenant_12 : decode cX2_putTenant 12 = .ok (.if_icmp .ge 54, 3) := by decide +kernel
theorem dX2_putTenant_15 : decode cX2_putTenant 15 = .ok (.aload_n 2, 1) := by decide +kernel
theorem dX2_putTenant_16 : decode cX2_putTenant 16 = .ok (.aload_n 0, 1) := by decide +kernel
theorem dX2_putTenant_17 : decode cX2_putTenant 17 = .ok (.getfield 31, 3) := by decide +kernel
theorem dX2_putTenant_20 : decode cX2_putTenant 20 = .ok (.aload_n 1, 1) := by decide +kernel
theorem dX2_putTenant_21 : decode cX2_putTenant 21 = .ok (.iconst 0, 1) := by decide +kernel
theorem dX2_putTenant_22 : decode cX2_putTenant 22 = .ok (.invokevirtual 72, 3) := by decide +kernel
theorem dX2_putTenant_25 : decode cX2_putTenant 25 = .ok (.invokevirtual 79, 3) := by decide +kernel
theorem dX2_putTenant_28 : decode cX2_putTenant 28 = .ok (.aload_n 0, 1) := by decide +kernel
theorem dX2_putTenant_29 : decode cX2_putTenant 29 = .ok (.getfield 21, 3) := by decide +kernel
theorem dX2_putTenant_32 : decode cX2_putTenant 32 = .ok (.aload_n 0, 1) := by decide +kernel
theorem dX2_putTenant_33 : decode cX2_putTenant 33 = .ok (.getfield 31, 3) := by decide +kernel
theorem dX2_putTenant_36 : decode cX2_putTenant 36 = .ok (.aload_n 1, 1) := by decide +kernel
theorem dX2_putTenant_37 : decode cX2_putTenant 37 = .ok (.iconst 1, 1) := by decide +kernel
theorem dX2_putTenant_38 : decode cX2_putTenant 38 = .ok (.invokevirtual 72, 3) := by decide +kernel
theorem dX2_putTenant_41 : decode cX2_putTenant 41 = .ok (.iastore, 1) := by decide +kernel
theorem dX2_putTenant_42 : decode cX2_putTenant 42 = .ok (.aload_n 0, 1) := by decide +kernel
theorem dX2_putTenant_43 : decode cX2_putTenant 43 = .ok (.getfield 24, 3) := by decide +kernel
theorem dX2_putTenant_46 : decode cX2_putTenant 46 = .ok (.aload_n 0, 1) := by decide +kernel
theorem dX2_putTenant_47 : decode cX2_putTenant 47 = .ok (.getfield 31, 3) := by decide +kernel
theorem dX2_putTenant_50 : decode cX2_putTenant 50 = .ok (.aload_n 1, 1) := by decide +kernel
theorem dX2_putTenant_51 : decode cX2_putTenant 51 = .ok (.iconst 2, 1) := by decide +kernel
theorem dX2_putTenant_52 : decode cX2_putTenant 52 = .ok (.invokevirtual 72, 3) := by decide +kernel
theorem dX2_putTenant_55 : decode cX2_putTenant 55 = .ok (.iastore, 1) := by decide +kernel
theorem dX2_putTenant_56 : decode cX2_putTenant 56 = .ok (.aload_n 0, 1) := by decide +kernel
theorem dX2_putTenant_57 : decode cX2_putTenant 57 = .ok (.dup, 1) := by decide +kernel
theorem dX2_putTenant_58 : decode cX2_putTenant 58 = .ok (.getfield 31, 3) := by decide +kernel
theorem dX2_putTenant_61 : decode cX2_putTenant 61 = .ok (.iconst 1, 1) := by decide +kernel
theorem dX2_putTenant_62 : decode cX2_putTenant 62 = .ok (.iadd, 1) := by decide +kernel
theorem dX2_putTenant_63 : decode cX2_putTenant 63 = .ok (.putfield 31, 3) := by decide +kernel
theorem dX2_putTenant_66 : decode cX2_putTenant 66 = .ok (.return_, 1) := by decide +kernel
theorem dX2_hasBough_0 : decode cX2_hasBough 0 = .ok (.iload_n 1, 1) := by decide +kernel
theorem dX2_hasBough_1 : decode cX2_hasBough 1 = .ok (.ifCond .lt 21, 3) := by decide +kernel
theorem dX2_hasBough_4 : decode cX2_hasBough 4 = .ok (.iload_n 1, 1) := by decide +kernel
theorem dX2_hasBough_5 : decode cX2_hasBough 5 = .ok (.aload_n 0, 1) := by decide +kernel
theorem dX2_hasBough_6 : decode cX2_hasBough 6 = .ok (.getfield 27, 3) := by decide +kernel
theorem dX2_hasBough_9 : decode cX2_hasBough 9 = .ok (.if_icmp .ge 13, 3) := by decide +kernel
theorem dX2_hasBough_12 : decode cX2_hasBough 12 = .ok (.iload_n 1, 1) := by decide +kernel
theorem dX2_hasBough_13 : decode cX2_hasBough 13 = .ok (.bipush 8, 2) := by decide +kernel
theorem dX2_hasBough_15 : decode cX2_hasBough 15 = .ok (.if_icmp .ge 7, 3) := by decide +kernel
theorem dX2_hasBough_18 : decode cX2_hasBough 18 = .ok (.iconst 1, 1) := by decide +kernel
theorem dX2_hasBough_19 : decode cX2_hasBough 19 = .ok (.goto 4, 3) := by decide +kernel
theorem dX2_hasBough_22 : decode cX2_hasBough 22 = .ok (.iconst 0, 1) := by decide +kernel
theorem dX2_hasBough_23 : decode cX2_hasBough 23 = .ok (.ireturn, 1) := by decide +kernel
theorem dX2_hasTenant_0 : decode cX2_hasTenant 0 = .ok (.iload_n 1, 1) := by decide +kernel
theorem dX2_hasTenant_1 : decode cX2_hasTenant 1 = .ok (.ifCond .lt 20, 3) := by decide +kernel
theorem dX2_hasTenant_4 : decode cX2_hasTenant 4 = .ok (.iload_n 1, 1) := by decide +kernel
theorem dX2_hasTenant_5 : decode cX2_hasTenant 5 = .ok (.aload_n 0, 1) := by decide +kernel
theorem dX2_hasTenant_6 : decode cX2_hasTenant 6 = .ok (.getfield 31, 3) := by decide +kernel
theorem dX2_hasTenant_9 : decode cX2_hasTenant 9 = .ok (.if_icmp .ge 12, 3) := by decide +kernel
theorem dX2_hasTenant_12 : decode cX2_hasTenant 12 = .ok (.iload_n 1, 1) := by decide +kernel
theorem dX2_hasTenant_13 : decode cX2_hasTenant 13 = .ok (.iconst 4, 1) := by decide +kernel
theorem dX2_hasTenant_14 : decode cX2_hasTenant 14 = .ok (.if_icmp .ge 7, 3) := by decide +kernel
theorem dX2_hasTenant_17 : decode cX2_hasTenant 17 = .ok (.iconst 1, 1) := by decide +kernel
theorem dX2_hasTenant_18 : decode cX2_hasTenant 18 = .ok (.goto 4, 3) := by decide +kernel
theorem dX2_hasTenant_21 : decode cX2_hasTenant 21 = .ok (.iconst 0, 1) := by decide +kernel
theorem dX2_hasTenant_22 : decode cX2_hasTenant 22 = .ok (.ireturn, 1) := by decide +kernel
theorem dX2_kind_0 : decode cX2_kind 0 = .ok (.iload_n 1, 1) := by decide +kernel
theorem dX2_kind_1 : decode cX2_kind 1 = .ok (.ifCond .lt 21, 3) := by decide +kernel
theorem dX2_kind_4 : decode cX2_kind 4 = .ok (.iload_n 1, 1) := by decide +kernel
theorem dX2_kind_5 : decode cX2_kind 5 = .ok (.aload_n 0, 1) := by decide +kernel
theorem dX2_kind_6 : decode cX2_kind 6 = .ok (.getfield 9, 3) := by decide +kernel
theorem dX2_kind_9 : decode cX2_kind 9 = .ok (.arraylength, 1) := by decide +kernel
theorem dX2_kind_10 : decode cX2_kind 10 = .ok (.if_icmp .ge 12, 3) := by decide +kernel
theorem dX2_kind_13 : decode cX2_kind 13 = .ok (.aload_n 0, 1) := by decide +kernel
theorem dX2_kind_14 : decode cX2_kind 14 = .ok (.getfield 9, 3) := by decide +kernel
theorem dX2_kind_17 : decode cX2_kind 17 = .ok (.iload_n 1, 1) := by decide +kernel
theorem dX2_kind_18 : decode cX2_kind 18 = .ok (.iaload, 1) := by decide +kernel
theorem dX2_kind_19 : decode cX2_kind 19 = .ok (.goto 4, 3) := by decide +kernel
theorem dX2_kind_22 : decode cX2_kind 22 = .ok (.iconst 0, 1) := by decide +kernel
theorem dX2_kind_23 : decode cX2_kind 23 = .ok (.ireturn, 1) := by decide +kernel
theorem dX2_height_0 : decode cX2_height 0 = .ok (.iload_n 1, 1) := by decide +kernel
theorem dX2_height_1 : decode cX2_height 1 = .ok (.ifCond .lt 21, 3) := by decide +kernel
theorem dX2_height_4 : decode cX2_height 4 = .ok (.iload_n 1, 1) := by decide +kernel
theorem dX2_height_5 : decode cX2_height 5 = .ok (.aload_n 0, 1) := by decide +kernel
theorem dX2_height_6 : decode cX2_height 6 = .ok (.getfield 15, 3) := by decide +kernel
theorem dX2_height_9 : decode cX2_height 9 = .ok (.arraylength, 1) := by decide +kernel
theorem dX2_height_10 : decode cX2_height 10 = .ok (.if_icmp .ge 12, 3) := by decide +kernel
theorem dX2_height_13 : decode cX2_height 13 = .ok (.aload_n 0, 1) := by decide +kernel
theorem dX2_height_14 : decode cX2_height 14 = .ok (.getfield 15, 3) := by decide +kernel
theorem dX2_height_17 : decode cX2_height 17 = .ok (.iload_n 1, 1) := by decide +kernel
theorem dX2_height_18 : decode cX2_height 18 = .ok (.iaload, 1) := by decide +kernel
theorem dX2_height_19 : decode cX2_height 19 = .ok (.goto 4, 3) := by decide +kernel
theorem dX2_height_22 : decode cX2_height 22 = .ok (.iconst 0, 1) := by decide +kernel
theorem dX2_height_23 : decode cX2_height 23 = .ok (.ireturn, 1) := by decide +kernel
theorem dX2_weight_0 : decode cX2_weight 0 = .ok (.iload_n 1, 1) := by decide +kernel
theorem dX2_weight_1 : decode cX2_weight 1 = .ok (.ifCond .lt 21, 3) := by decide +kernel
theorem dX2_weight_4 : decode cX2_weight 4 = .ok (.iload_n 1, 1) := by decide +kernel
theorem dX2_weight_5 : decode cX2_weight 5 = .ok (.aload_n 0, 1) := by decide +kernel
theorem dX2_weight_6 : decode cX2_weight 6 = .ok (.getfield 18, 3) := by decide +kernel
theorem dX2_weight_9 : decode cX2_weight 9 = .ok (.arraylength, 1) := by decide +kernel
theorem dX2_weight_10 : decode cX2_weight 10 = .ok (.if_icmp .ge 12, 3) := by decide +kernel
theorem dX2_weight_13 : decode cX2_weight 13 = .ok (.aload_n 0, 1) := by decide +kernel
theorem dX2_weight_14 : decode cX2_weight 14 = .ok (.getfield 18, 3) := by decide +kernel
theorem dX2_weight_17 : decode cX2_weight 17 = .ok (.iload_n 1, 1) := by decide +kernel
theorem dX2_weight_18 : decode cX2_weight 18 = .ok (.iaload, 1) := by decide +kernel
theorem dX2_weight_19 : decode cX2_weight 19 = .ok (.goto 4, 3) := by decide +kernel
theorem dX2_weight_22 : decode cX2_weight 22 = .ok (.iconst 0, 1) := by decide +kernel
theorem dX2_weight_23 : decode cX2_weight 23 = .ok (.ireturn, 1) := by decide +kernel
theorem dX2_strength_0 : decode cX2_strength 0 = .ok (.iload_n 1, 1) := by decide +kernel
theorem dX2_strength_1 : decode cX2_strength 1 = .ok (.ifCond .lt 21, 3) := by decide +kernel
theorem dX2_strength_4 : decode cX2_strength 4 = .ok (.iload_n 1, 1) := by decide +kernel
theorem dX2_strength_5 : decode cX2_strength 5 = .ok (.aload_n 0, 1) := by decide +kernel
theorem dX2_strength_6 : decode cX2_strength 6 = .ok (.getfield 21, 3) := by decide +kernel
theorem dX2_strength_9 : decode cX2_strength 9 = .ok (.arraylength, 1) := by decide +kernel
theorem dX2_strength_10 : decode cX2_strength 10 = .ok (.if_icmp .ge 12, 3) := by decide +kernel
theorem dX2_strength_13 : decode cX2_strength 13 = .ok (.aload_n 0, 1) := by decide +kernel
theorem dX2_strength_14 : decode cX2_strength 14 = .ok (.getfield 21, 3) := by decide +kernel
theorem dX2_strength_17 : decode cX2_strength 17 = .ok (.iload_n 1, 1) := by decide +kernel
theorem dX2_strength_18 : decode cX2_strength 18 = .ok (.iaload, 1) := by decide +kernel
theorem dX2_strength_19 : decode cX2_strength 19 = .ok (.goto 4, 3) := by decide +kernel
theorem dX2_strength_22 : decode cX2_strength 22 = .ok (.iconst 0, 1) := by decide +kernel
theorem dX2_strength_23 : decode cX2_strength 23 = .ok (.ireturn, 1) := by decide +kernel
theorem dX2_hearth_0 : decode cX2_hearth 0 = .ok (.iload_n 1, 1) := by decide +kernel
theorem dX2_hearth_1 : decode cX2_hearth 1 = .ok (.ifCond .lt 21, 3) := by decide +kernel
theorem dX2_hearth_4 : decode cX2_hearth 4 = .ok (.iload_n 1, 1) := by decide +kernel
theorem dX2_hearth_5 : decode cX2_hearth 5 = .ok (.aload_n 0, 1) := by decide +kernel
theorem dX2_hearth_6 : decode cX2_hearth 6 = .ok (.getfield 24, 3) := by decide +kernel
theorem dX2_hearth_9 : decode cX2_hearth 9 = .ok (.arraylength, 1) := by decide +kernel
theorem dX2_hearth_10 : decode cX2_hearth 10 = .ok (.if_icmp .ge 12, 3) := by decide +kernel
theorem dX2_hearth_13 : decode cX2_hearth 13 = .ok (.aload_n 0, 1) := by decide +kernel
theorem dX2_hearth_14 : decode cX2_hearth 14 = .ok (.getfield 24, 3) := by decide +kernel
theorem dX2_hearth_17 : decode cX2_hearth 17 = .ok (.iload_n 1, 1) := by decide +kernel
theorem dX2_hearth_18 : decode cX2_hearth 18 = .ok (.iaload, 1) := by decide +kernel
theorem dX2_hearth_19 : decode cX2_hearth 19 = .ok (.goto 4, 3) := by decide +kernel
theorem dX2_hearth_22 : decode cX2_hearth 22 = .ok (.iconst 0, 1) := by decide +kernel
theorem dX2_hearth_23 : decode cX2_hearth 23 = .ok (.ireturn, 1) := by decide +kernel
theorem dX2_weightOf_0 : decode cX2_weightOf 0 = .ok (.iconst 0, 1) := by decide +kernel
theorem dX2_weightOf_1 : decode cX2_weightOf 1 = .ok (.istore_n 2, 1) := by decide +kernel
theorem dX2_weightOf_2 : decode cX2_weightOf 2 = .ok (.iconst 0, 1) := by decide +kernel
theorem dX2_weightOf_3 : decode cX2_weightOf 3 = .ok (.istore_n 3, 1) := by decide +kernel
theorem dX2_weightOf_4 : decode cX2_weightOf 4 = .ok (.iload_n 3, 1) := by decide +kernel
theorem dX2_weightOf_5 : decode cX2_weightOf 5 = .ok (.aload_n 0, 1) := by decide +kernel
theorem dX2_weightOf_6 : decode cX2_weightOf 6 = .ok (.getfield 27, 3) := by decide +kernel
theorem dX2_weightOf_9 : decode cX2_weightOf 9 = .ok (.if_icmp .ge 26, 3) := by decide +kernel
theorem dX2_weightOf_12 : decode cX2_weightOf 12 = .ok (.iload_n 1, 1) := by decide +kernel
theorem dX2_weightOf_13 : decode cX2_weightOf 13 = .ok (.iload_n 3, 1) := by decide +kernel
theorem dX2_weightOf_14 : decode cX2_weightOf 14 = .ok (.ishr, 1) := by decide +kernel
theorem dX2_weightOf_15 : decode cX2_weightOf 15 = .ok (.iconst 1, 1) := by decide +kernel
theorem dX2_weightOf_16 : decode cX2_weightOf 16 = .ok (.iand, 1) := by decide +kernel
theorem dX2_weightOf_17 : decode cX2_weightOf 17 = .ok (.iconst 1, 1) := by decide +kernel
theorem dX2_weightOf_18 : decode cX2_weightOf 18 = .ok (.if_icmp .ne 11, 3) := by decide +kernel
theorem dX2_weightOf_21 : decode cX2_weightOf 21 = .ok (.iload_n 2, 1) := by decide +kernel
theorem dX2_weightOf_22 : decode cX2_weightOf 22 = .ok (.aload_n 0, 1) := by decide +kernel
theorem dX2_weightOf_23 : decode cX2_weightOf 23 = .ok (.iload_n 3, 1) := by decide +kernel
theorem dX2_weightOf_24 : decode cX2_weightOf 24 = .ok (.invokevirtual 82, 3) := by decide +kernel
theorem dX2_weightOf_27 : decode cX2_weightOf 27 = .ok (.iadd, 1) := by decide +kernel
theorem dX2_weightOf_28 : decode cX2_weightOf 28 = .ok (.istore_n 2, 1) := by decide +kernel
theorem dX2_weightOf_29 : decode cX2_weightOf 29 = .ok (.iinc 3 1, 3) := by decide +kernel
theorem dX2_weightOf_32 : decode cX2_weightOf 32 = .ok (.goto (-28), 3) := by decide +kernel
theorem dX2_weightOf_35 : decode cX2_weightOf 35 = .ok (.iload_n 2, 1) := by decide +kernel
theorem dX2_weightOf_36 : decode cX2_weightOf 36 = .ok (.ireturn, 1) := by decide +kernel
theorem dX2_isDead_0 : decode cX2_isDead 0 = .ok (.iload_n 3, 1) := by decide +kernel
theorem dX2_isDead_1 : decode cX2_isDead 1 = .ok (.aload_n 1, 1) := by decide +kernel
theorem dX2_isDead_2 : decode cX2_isDead 2 = .ok (.iload_n 2, 1) := by decide +kernel
theorem dX2_isDead_3 : decode cX2_isDead 3 = .ok (.invokevirtual 85, 3) := by decide +kernel
theorem dX2_isDead_6 : decode cX2_isDead 6 = .ok (.if_icmp .lt 7, 3) := by decide +kernel
theorem dX2_isDead_9 : decode cX2_isDead 9 = .ok (.iconst 1, 1) := by decide +kernel
theorem dX2_isDead_10 : decode cX2_isDead 10 = .ok (.goto 4, 3) := by decide +kernel
theorem dX2_isDead_13 : decode cX2_isDead 13 = .ok (.iconst 0, 1) := by decide +kernel
theorem dX2_isDead_14 : decode cX2_isDead 14 = .ok (.ireturn, 1) := by decide +kernel
theorem dX2_hasFallen_0 : decode cX2_hasFallen 0 = .ok (.iload_n 3, 1) := by decide +kernel
theorem dX2_hasFallen_1 : decode cX2_hasFallen 1 = .ok (.aload_n 1, 1) := by decide +kernel
theorem dX2_hasFallen_2 : decode cX2_hasFallen 2 = .ok (.iload_n 2, 1) := by decide +kernel
theorem dX2_hasFallen_3 : decode cX2_hasFallen 3 = .ok (.invokevirtual 85, 3) := by decide +kernel
theorem dX2_hasFallen_6 : decode cX2_hasFallen 6 = .ok (.aload_n 0, 1) := by decide +kernel
theorem dX2_hasFallen_7 : decode cX2_hasFallen 7 = .ok (.getfield 40, 3) := by decide +kernel
theorem dX2_hasFallen_10 : decode cX2_hasFallen 10 = .ok (.iadd, 1) := by decide +kernel
theorem dX2_hasFallen_11 : decode cX2_hasFallen 11 = .ok (.if_icmp .lt 7, 3) := by decide +kernel
theorem dX2_hasFallen_14 : decode cX2_hasFallen 14 = .ok (.iconst 1, 1) := by decide +kernel
theorem dX2_hasFallen_15 : decode cX2_hasFallen 15 = .ok (.goto 4, 3) := by decide +kernel
theorem dX2_hasFallen_18 : decode cX2_hasFallen 18 = .ok (.iconst 0, 1) := by decide +kernel
theorem dX2_hasFallen_19 : decode cX2_hasFallen 19 = .ok (.ireturn, 1) := by decide +kernel
theorem dX2_isInReach_0 : decode cX2_isInReach 0 = .ok (.aload_n 0, 1) := by decide +kernel
theorem dX2_isInReach_1 : decode cX2_isInReach 1 = .ok (.iload_n 3, 1) := by decide +kernel
theorem dX2_isInReach_2 : decode cX2_isInReach 2 = .ok (.invokevirtual 88, 3) := by decide +kernel
theorem dX2_isInReach_5 : decode cX2_isInReach 5 = .ok (.tableswitch 73 0 3 #[31, 73, 50, 71], 31) := by decide +kernel
theorem dX2_isInReach_36 : decode cX2_isInReach 36 = .ok (.aload_n 0, 1) := by decide +kernel
theorem dX2_isInReach_37 : decode cX2_isInReach 37 = .ok (.iload_n 3, 1) := by decide +kernel
theorem dX2_isInReach_38 : decode cX2_isInReach 38 = .ok (.invokevirtual 91, 3) := by decide +kernel
theorem dX2_isInReach_41 : decode cX2_isInReach 41 = .ok (.aload_n 1, 1) := by decide +kernel
theorem dX2_isInReach_42 : decode cX2_isInReach 42 = .ok (.iload_n 2, 1) := by decide +kernel
theorem dX2_isInReach_43 : decode cX2_isInReach 43 = .ok (.invokevirtual 94, 3) := by decide +kernel
theorem dX2_isInReach_46 : decode cX2_isInReach 46 = .ok (.if_icmp .gt 7, 3) := by decide +kernel
theorem dX2_isInReach_49 : decode cX2_isInReach 49 = .ok (.iconst 1, 1) := by decide +kernel
theorem dX2_isInReach_50 : decode cX2_isInReach 50 = .ok (.goto 4, 3) := by decide +kernel
theorem dX2_isInReach_53 : decode cX2_isInReach 53 = .ok (.iconst 0, 1) := by decide +kernel
theorem dX2_isInReach_54 : decode cX2_isInReach 54 = .ok (.ireturn, 1) := by decide +kernel
theorem dX2_isInReach_55 : decode cX2_isInReach 55 = .ok (.aload_n 0, 1) := by decide +kernel
theorem dX2_isInReach_56 : decode cX2_isInReach 56 = .ok (.iload_n 3, 1) := by decide +kernel
theorem dX2_isInReach_57 : decode cX2_isInReach 57 = .ok (.invokevirtual 91, 3) := by decide +kernel
theorem dX2_isInReach_60 : decode cX2_isInReach 60 = .ok (.iconst 3, 1) := by decide +kernel
theorem dX2_isInReach_61 : decode cX2_isInReach 61 = .ok (.iadd, 1) := by decide +kernel
theorem dX2_isInReach_62 : decode cX2_isInReach 62 = .ok (.aload_n 1, 1) := by decide +kernel
theorem dX2_isInReach_63 : decode cX2_isInReach 63 = .ok (.iload_n 2, 1) := by decide +kernel
theorem dX2_isInReach_64 : decode cX2_isInReach 64 = .ok (.invokevirtual 94, 3) := by decide +kernel
theorem dX2_isInReach_67 : decode cX2_isInReach 67 = .ok (.if_icmp .gt 7, 3) := by decide +kernel
theorem dX2_isInReach_70 : decode cX2_isInReach 70 = .ok (.iconst 1, 1) := by decide +kernel
theorem dX2_isInReach_71 : decode cX2_isInReach 71 = .ok (.goto 4, 3) := by decide +kernel
theorem dX2_isInReach_74 : decode cX2_isInReach 74 = .ok (.iconst 0, 1) := by decide +kernel
theorem dX2_isInReach_75 : decode cX2_isInReach 75 = .ok (.ireturn, 1) := by decide +kernel
theorem dX2_isInReach_76 : decode cX2_isInReach 76 = .ok (.iconst 1, 1) := by decide +kernel
theorem dX2_isInReach_77 : decode cX2_isInReach 77 = .ok (.ireturn, 1) := by decide +kernel
theorem dX2_isInReach_78 : decode cX2_isInReach 78 = .ok (.iconst 0, 1) := by decide +kernel
theorem dX2_isInReach_79 : decode cX2_isInReach 79 = .ok (.ireturn, 1) := by decide +kernel
theorem dX2_couldTake_0 : decode cX2_couldTake 0 = .ok (.aload_n 0, 1) := by decide +kernel
theorem dX2_couldTake_1 : decode cX2_couldTake 1 = .ok (.aload_n 1, 1) := by decide +kernel
theorem dX2_couldTake_2 : decode cX2_couldTake 2 = .ok (.iload_n 3, 1) := by decide +kernel
theorem dX2_couldTake_3 : decode cX2_couldTake 3 = .ok (.iload 4, 2) := by decide +kernel
theorem dX2_couldTake_5 : decode cX2_couldTake 5 = .ok (.invokevirtual 97, 3) := by decide +kernel
theorem dX2_couldTake_8 : decode cX2_couldTake 8 = .ok (.ifCond .eq 44, 3) := by decide +kernel
theorem dX2_couldTake_11 : decode cX2_couldTake 11 = .ok (.iload 5, 2) := by decide +kernel
theorem dX2_couldTake_13 : decode cX2_couldTake 13 = .ok (.aload_n 0, 1) := by decide +kernel
theorem dX2_couldTake_14 : decode cX2_couldTake 14 = .ok (.iload_n 3, 1) := by decide +kernel
theorem dX2_couldTake_15 : decode cX2_couldTake 15 = .ok (.invokevirtual 82, 3) := by decide +kernel
theorem dX2_couldTake_18 : decode cX2_couldTake 18 = .ok (.iadd, 1) := by decide +kernel
theorem dX2_couldTake_19 : decode cX2_couldTake 19 = .ok (.aload_n 0, 1) := by decide +kernel
theorem dX2_couldTake_20 : decode cX2_couldTake 20 = .ok (.iload_n 2, 1) := by decide +kernel
theorem dX2_couldTake_21 : decode cX2_couldTake 21 = .ok (.invokevirtual 101, 3) := by decide +kernel
theorem dX2_couldTake_24 : decode cX2_couldTake 24 = .ok (.if_icmp .gt 28, 3) := by decide +kernel
theorem dX2_couldTake_27 : decode cX2_couldTake 27 = .ok (.aload_n 0, 1) := by decide +kernel
theorem dX2_couldTake_28 : decode cX2_couldTake 28 = .ok (.aload_n 1, 1) := by decide +kernel
theorem dX2_couldTake_29 : decode cX2_couldTake 29 = .ok (.iload_n 3, 1) := by decide +kernel
theorem dX2_couldTake_30 : decode cX2_couldTake 30 = .ok (.iload 4, 2) := by decide +kernel
theorem dX2_couldTake_32 : decode cX2_couldTake 32 = .ok (.invokevirtual 104, 3) := by decide +kernel
theorem dX2_couldTake_35 : decode cX2_couldTake 35 = .ok (.ifCond .ne 13, 3) := by decide +kernel
theorem dX2_couldTake_38 : decode cX2_couldTake 38 = .ok (.aload_n 0, 1) := by decide +kernel
theorem dX2_couldTake_39 : decode cX2_couldTake 39 = .ok (.aload_n 1, 1) := by decide +kernel
theorem dX2_couldTake_40 : decode cX2_couldTake 40 = .ok (.iload_n 2, 1) := by decide +kernel
theorem dX2_couldTake_41 : decode cX2_couldTake 41 = .ok (.iload_n 3, 1) := by decide +kernel
theorem dX2_couldTake_42 : decode cX2_couldTake 42 = .ok (.invokevirtual 107, 3) := by decide +kernel
theorem dX2_couldTake_45 : decode cX2_couldTake 45 = .ok (.ifCond .eq 7, 3) := by decide +kernel
theorem dX2_couldTake_48 : decode cX2_couldTake 48 = .ok (.iconst 1, 1) := by decide +kernel
theorem dX2_couldTake_49 : decode cX2_couldTake 49 = .ok (.goto 4, 3) := by decide +kernel
theorem dX2_couldTake_52 : decode cX2_couldTake 52 = .ok (.iconst 0, 1) := by decide +kernel
theorem dX2_couldTake_53 : decode cX2_couldTake 53 = .ok (.ireturn, 1) := by decide +kernel
theorem dX2_canTake_0 : decode cX2_canTake 0 = .ok (.aload_n 1, 1) := by decide +kernel
theorem dX2_canTake_1 : decode cX2_canTake 1 = .ok (.iload_n 3, 1) := by decide +kernel
theorem dX2_canTake_2 : decode cX2_canTake 2 = .ok (.invokevirtual 110, 3) := by decide +kernel
theorem dX2_canTake_5 : decode cX2_canTake 5 = .ok (.ifCond .ne 26, 3) := by decide +kernel
theorem dX2_canTake_8 : decode cX2_canTake 8 = .ok (.aload_n 0, 1) := by decide +kernel
theorem dX2_canTake_9 : decode cX2_canTake 9 = .ok (.aload_n 1, 1) := by decide +kernel
theorem dX2_canTake_10 : decode cX2_canTake 10 = .ok (.iload_n 2, 1) := by decide +kernel
theorem dX2_canTake_11 : decode cX2_canTake 11 = .ok (.iload_n 3, 1) := by decide +kernel
theorem dX2_canTake_12 : decode cX2_canTake 12 = .ok (.aload_n 1, 1) := by decide +kernel
theorem dX2_canTake_13 : decode cX2_canTake 13 = .ok (.getfield 114, 3) := by decide +kernel
theorem dX2_canTake_16 : decode cX2_canTake 16 = .ok (.aload_n 1, 1) := by decide +kernel
theorem dX2_canTake_17 : decode cX2_canTake 17 = .ok (.iload_n 2, 1) := by decide +kernel
theorem dX2_canTake_18 : decode cX2_canTake 18 = .ok (.invokevirtual 117, 3) := by decide +kernel
theorem dX2_canTake_21 : decode cX2_canTake 21 = .ok (.invokevirtual 120, 3) := by decide +kernel
theorem dX2_canTake_24 : decode cX2_canTake 24 = .ok (.ifCond .eq 7, 3) := by decide +kernel
theorem dX2_canTake_27 : decode cX2_canTake 27 = .ok (.iconst 1, 1) := by decide +kernel
theorem dX2_canTake_28 : decode cX2_canTake 28 = .ok (.goto 4, 3) := by decide +kernel
theorem dX2_canTake_31 : decode cX2_canTake 31 = .ok (.iconst 0, 1) := by decide +kernel
theorem dX2_canTake_32 : decode cX2_canTake 32 = .ok (.ireturn, 1) := by decide +kernel
theorem dX2_isCaught_0 : decode cX2_isCaught 0 = .ok (.aload_n 0, 1) := by decide +kernel
theorem dX2_isCaught_1 : decode cX2_isCaught 1 = .ok (.getfield 37, 3) := by decide +kernel
theorem dX2_isCaught_4 : decode cX2_isCaught 4 = .ok (.ifCond .le 53, 3) := by decide +kernel
theorem dX2_isCaught_7 : decode cX2_isCaught 7 = .ok (.aload_n 1, 1) := by decide +kernel
theorem dX2_isCaught_8 : decode cX2_isCaught 8 = .ok (.getfield 114, 3) := by decide +kernel
theorem dX2_isCaught_11 : decode cX2_isCaught 11 = .ok (.aload_n 0, 1) := by decide +kernel
theorem dX2_isCaught_12 : decode cX2_isCaught 12 = .ok (.getfield 37, 3) := by decide +kernel
theorem dX2_isCaught_15 : decode cX2_isCaught 15 = .ok (.irem, 1) := by decide +kernel
theorem dX2_isCaught_16 : decode cX2_isCaught 16 = .ok (.ifCond .ne 41, 3) := by decide +kernel
theorem dX2_isCaught_19 : decode cX2_isCaught 19 = .ok (.aload_n 1, 1) := by decide +kernel
theorem dX2_isCaught_20 : decode cX2_isCaught 20 = .ok (.iload_n 2, 1) := by decide +kernel
theorem dX2_isCaught_21 : decode cX2_isCaught 21 = .ok (.invokevirtual 94, 3) := by decide +kernel
theorem dX2_isCaught_24 : decode cX2_isCaught 24 = .ok (.aload_n 0, 1) := by decide +kernel
theorem dX2_isCaught_25 : decode cX2_isCaught 25 = .ok (.getfield 34, 3) := by decide +kernel
theorem dX2_isCaught_28 : decode cX2_isCaught 28 = .ok (.if_icmp .le 29, 3) := by decide +kernel
theorem dX2_isCaught_31 : decode cX2_isCaught 31 = .ok (.aload_n 0, 1) := by decide +kernel
theorem dX2_isCaught_32 : decode cX2_isCaught 32 = .ok (.iload_n 3, 1) := by decide +kernel
theorem dX2_isCaught_33 : decode cX2_isCaught 33 = .ok (.invokevirtual 88, 3) := by decide +kernel
theorem dX2_isCaught_36 : decode cX2_isCaught 36 = .ok (.iconst 3, 1) := by decide +kernel
theorem dX2_isCaught_37 : decode cX2_isCaught 37 = .ok (.if_icmp .eq 20, 3) := by decide +kernel
theorem dX2_isCaught_40 : decode cX2_isCaught 40 = .ok (.aload_n 0, 1) := by decide +kernel
theorem dX2_isCaught_41 : decode cX2_isCaught 41 = .ok (.aload_n 1, 1) := by decide +kernel
theorem dX2_isCaught_42 : decode cX2_isCaught 42 = .ok (.iload_n 3, 1) := by decide +kernel
theorem dX2_isCaught_43 : decode cX2_isCaught 43 = .ok (.aload_n 1, 1) := by decide +kernel
theorem dX2_isCaught_44 : decode cX2_isCaught 44 = .ok (.getfield 114, 3) := by decide +kernel
theorem dX2_isCaught_47 : decode cX2_isCaught 47 = .ok (.invokevirtual 104, 3) := by decide +kernel
theorem dX2_isCaught_50 : decode cX2_isCaught 50 = .ok (.ifCond .ne 7, 3) := by decide +kernel
theorem dX2_isCaught_53 : decode cX2_isCaught 53 = .ok (.iconst 1, 1) := by decide +kernel
theorem dX2_isCaught_54 : decode cX2_isCaught 54 = .ok (.goto 4, 3) := by decide +kernel
theorem dX2_isCaught_57 : decode cX2_isCaught 57 = .ok (.iconst 0, 1) := by decide +kernel
theorem dX2_isCaught_58 : decode cX2_isCaught 58 = .ok (.ireturn, 1) := by decide +kernel
theorem dX2_isWarm_0 : decode cX2_isWarm 0 = .ok (.aload_n 1, 1) := by decide +kernel
theorem dX2_isWarm_1 : decode cX2_isWarm 1 = .ok (.iload_n 2, 1) := by decide +kernel
theorem dX2_isWarm_2 : decode cX2_isWarm 2 = .ok (.invokevirtual 124, 3) := by decide +kernel
theorem dX2_isWarm_5 : decode cX2_isWarm 5 = .ok (.aload_n 0, 1) := by decide +kernel
theorem dX2_isWarm_6 : decode cX2_isWarm 6 = .ok (.iload_n 2, 1) := by decide +kernel
theorem dX2_isWarm_7 : decode cX2_isWarm 7 = .ok (.invokevirtual 127, 3) := by decide +kernel
theorem dX2_isWarm_10 : decode cX2_isWarm 10 = .ok (.if_icmp .lt 7, 3) := by decide +kernel
theorem dX2_isWarm_13 : decode cX2_isWarm 13 = .ok (.iconst 1, 1) := by decide +kernel
theorem dX2_isWarm_14 : decode cX2_isWarm 14 = .ok (.goto 4, 3) := by decide +kernel
theorem dX2_isWarm_17 : decode cX2_isWarm 17 = .ok (.iconst 0, 1) := by decide +kernel
theorem dX2_isWarm_18 : decode cX2_isWarm 18 = .ok (.ireturn, 1) := by decide +kernel
theorem dX2_warmOnes_0 : decode cX2_warmOnes 0 = .ok (.iconst 0, 1) := by decide +kernel
theorem dX2_warmOnes_1 : decode cX2_warmOnes 1 = .ok (.istore_n 2, 1) := by decide +kernel
theorem dX2_warmOnes_2 : decode cX2_warmOnes 2 = .ok (.iconst 0, 1) := by decide +kernel
theorem dX2_warmOnes_3 : decode cX2_warmOnes 3 = .ok (.istore_n 3, 1) := by decide +kernel
theorem dX2_warmOnes_4 : decode cX2_warmOnes 4 = .ok (.iload_n 3, 1) := by decide +kernel
theorem dX2_warmOnes_5 : decode cX2_warmOnes 5 = .ok (.aload_n 0, 1) := by decide +kernel
theorem dX2_warmOnes_6 : decode cX2_warmOnes 6 = .ok (.getfield 31, 3) := by decide +kernel
theorem dX2_warmOnes_9 : decode cX2_warmOnes 9 = .ok (.if_icmp .ge 24, 3) := by decide +kernel
theorem dX2_warmOnes_12 : decode cX2_warmOnes 12 = .ok (.aload_n 0, 1) := by decide +kernel
theorem dX2_warmOnes_13 : decode cX2_warmOnes 13 = .ok (.aload_n 1, 1) := by decide +kernel
theorem dX2_warmOnes_14 : decode cX2_warmOnes 14 = .ok (.iload_n 3, 1) := by decide +kernel
theorem dX2_warmOnes_15 : decode cX2_warmOnes 15 = .ok (.invokevirtual 130, 3) := by decide +kernel
theorem dX2_warmOnes_18 : decode cX2_warmOnes 18 = .ok (.ifCond .eq 9, 3) := by decide +kernel
theorem dX2_warmOnes_21 : decode cX2_warmOnes 21 = .ok (.iload_n 2, 1) := by decide +kernel
theorem dX2_warmOnes_22 : decode cX2_warmOnes 22 = .ok (.iconst 1, 1) := by decide +kernel
theorem dX2_warmOnes_23 : decode cX2_warmOnes 23 = .ok (.iload_n 3, 1) := by decide +kernel
theorem dX2_warmOnes_24 : decode cX2_warmOnes 24 = .ok (.ishl, 1) := by decide +kernel
theorem dX2_warmOnes_25 : decode cX2_warmOnes 25 = .ok (.ior, 1) := by decide +kernel
theorem dX2_warmOnes_26 : decode cX2_warmOnes 26 = .ok (.istore_n 2, 1) := by decide +kernel
theorem dX2_warmOnes_27 : decode cX2_warmOnes 27 = .ok (.iinc 3 1, 3) := by decide +kernel
theorem dX2_warmOnes_30 : decode cX2_warmOnes 30 = .ok (.goto (-26), 3) := by decide +kernel
theorem dX2_warmOnes_33 : decode cX2_warmOnes 33 = .ok (.iload_n 2, 1) := by decide +kernel
theorem dX2_warmOnes_34 : decode cX2_warmOnes 34 = .ok (.ireturn, 1) := by decide +kernel
theorem dX2_areAllWarm_0 : decode cX2_areAllWarm 0 = .ok (.aload_n 0, 1) := by decide +kernel
theorem dX2_areAllWarm_1 : decode cX2_areAllWarm 1 = .ok (.aload_n 1, 1) := by decide +kernel
theorem dX2_areAllWarm_2 : decode cX2_areAllWarm 2 = .ok (.invokevirtual 134, 3) := by decide +kernel
theorem dX2_areAllWarm_5 : decode cX2_areAllWarm 5 = .ok (.iconst 1, 1) := by decide +kernel
theorem dX2_areAllWarm_6 : decode cX2_areAllWarm 6 = .ok (.aload_n 0, 1) := by decide +kernel
theorem dX2_areAllWarm_7 : decode cX2_areAllWarm 7 = .ok (.getfield 31, 3) := by decide +kernel
theorem dX2_areAllWarm_10 : decode cX2_areAllWarm 10 = .ok (.ishl, 1) := by decide +kernel
theorem dX2_areAllWarm_11 : decode cX2_areAllWarm 11 = .ok (.iconst 1, 1) := by decide +kernel
theorem dX2_areAllWarm_12 : decode cX2_areAllWarm 12 = .ok (.isub, 1) := by decide +kernel
theorem dX2_areAllWarm_13 : decode cX2_areAllWarm 13 = .ok (.if_icmp .ne 7, 3) := by decide +kernel
theorem dX2_areAllWarm_16 : decode cX2_areAllWarm 16 = .ok (.iconst 1, 1) := by decide +kernel
theorem dX2_areAllWarm_17 : decode cX2_areAllWarm 17 = .ok (.goto 4, 3) := by decide +kernel
theorem dX2_areAllWarm_20 : decode cX2_areAllWarm 20 = .ok (.iconst 0, 1) := by decide +kernel
theorem dX2_areAllWarm_21 : decode cX2_areAllWarm 21 = .ok (.ireturn, 1) := by decide +kernel
theorem dX2_firstDayFor_0 : decode cX2_firstDayFor 0 = .ok (.aload_n 1, 1) := by decide +kernel
theorem dX2_firstDayFor_1 : decode cX2_firstDayFor 1 = .ok (.iload_n 3, 1) := by decide +kernel
theorem dX2_firstDayFor_2 : decode cX2_firstDayFor 2 = .ok (.invokevirtual 110, 3) := by decide +kernel
theorem dX2_firstDayFor_5 : decode cX2_firstDayFor 5 = .ok (.ifCond .eq 6, 3) := by decide +kernel
theorem dX2_firstDayFor_8 : decode cX2_firstDayFor 8 = .ok (.bipush (-4), 2) := by decide +kernel
theorem dX2_firstDayFor_10 : decode cX2_firstDayFor 10 = .ok (.ireturn, 1) := by decide +kernel
theorem dX2_firstDayFor_11 : decode cX2_firstDayFor 11 = .ok (.aload_n 1, 1) := by decide +kernel
theorem dX2_firstDayFor_12 : decode cX2_firstDayFor 12 = .ok (.getfield 114, 3) := by decide +kernel
theorem dX2_firstDayFor_15 : decode cX2_firstDayFor 15 = .ok (.istore 4, 2) := by decide +kernel
theorem dX2_firstDayFor_17 : decode cX2_firstDayFor 17 = .ok (.iload 4, 2) := by decide +kernel
theorem dX2_firstDayFor_19 : decode cX2_firstDayFor 19 = .ok (.bipush 99, 2) := by decide +kernel
theorem dX2_firstDayFor_21 : decode cX2_firstDayFor 21 = .ok (.if_icmp .gt 25, 3) := by decide +kernel
theorem dX2_firstDayFor_24 : decode cX2_firstDayFor 24 = .ok (.aload_n 0, 1) := by decide +kernel
theorem dX2_firstDayFor_25 : decode cX2_firstDayFor 25 = .ok (.aload_n 1, 1) := by decide +kernel
theorem dX2_firstDayFor_26 : decode cX2_firstDayFor 26 = .ok (.iload_n 2, 1) := by decide +kernel
theorem dX2_firstDayFor_27 : decode cX2_firstDayFor 27 = .ok (.iload_n 3, 1) := by decide +kernel
theorem dX2_firstDayFor_28 : decode cX2_firstDayFor 28 = .ok (.iload 4, 2) := by decide +kernel
theorem dX2_firstDayFor_30 : decode cX2_firstDayFor 30 = .ok (.iconst 0, 1) := by decide +kernel
theorem dX2_firstDayFor_31 : decode cX2_firstDayFor 31 = .ok (.invokevirtual 120, 3) := by decide +kernel
theorem dX2_firstDayFor_34 : decode cX2_firstDayFor 34 = .ok (.ifCond .eq 6, 3) := by decide +kernel
theorem dX2_firstDayFor_37 : decode cX2_firstDayFor 37 = .ok (.iload 4, 2) := by decide +kernel
theorem dX2_firstDayFor_39 : decode cX2_firstDayFor 39 = .ok (.ireturn, 1) := by decide +kernel
theorem dX2_firstDayFor_40 : decode cX2_firstDayFor 40 = .ok (.iinc 4 1, 3) := by decide +kernel
theorem dX2_firstDayFor_43 : decode cX2_firstDayFor 43 = .ok (.goto (-26), 3) := by decide +kernel
theorem dX2_firstDayFor_46 : decode cX2_firstDayFor 46 = .ok (.bipush (-4), 2) := by decide +kernel
theorem dX2_firstDayFor_48 : decode cX2_firstDayFor 48 = .ok (.ireturn, 1) := by decide +kernel
theorem dX2_nobodyEverTakes_0 : decode cX2_nobodyEverTakes 0 = .ok (.iconst 0, 1) := by decide +kernel
theorem dX2_nobodyEverTakes_1 : decode cX2_nobodyEverTakes 1 = .ok (.istore_n 3, 1) := by decide +kernel
theorem dX2_nobodyEverTakes_2 : decode cX2_nobodyEverTakes 2 = .ok (.iload_n 3, 1) := by decide +kernel
theorem dX2_nobodyEverTakes_3 : decode cX2_nobodyEverTakes 3 = .ok (.aload_n 0, 1) := by decide +kernel
theorem dX2_nobodyEverTakes_4 : decode cX2_nobodyEverTakes 4 = .ok (.getfield 31, 3) := by decide +kernel
theorem dX2_nobodyEverTakes_7 : decode cX2_nobodyEverTakes 7 = .ok (.if_icmp .ge 23, 3) := by decide +kernel
theorem dX2_nobodyEverTakes_10 : decode cX2_nobodyEverTakes 10 = .ok (.aload_n 0, 1) := by decide +kernel
theorem dX2_nobodyEverTakes_11 : decode cX2_nobodyEverTakes 11 = .ok (.aload_n 1, 1) := by decide +kernel
theorem dX2_nobodyEverTakes_12 : decode cX2_nobodyEverTakes 12 = .ok (.iload_n 3, 1) := by decide +kernel
theorem dX2_nobodyEverTakes_13 : decode cX2_nobodyEverTakes 13 = .ok (.iload_n 2, 1) := by decide +kernel
theorem dX2_nobodyEverTakes_14 : decode cX2_nobodyEverTakes 14 = .ok (.invokevirtual 138, 3) := by decide +kernel
theorem dX2_nobodyEverTakes_17 : decode cX2_nobodyEverTakes 17 = .ok (.bipush (-4), 2) := by decide +kernel
theorem dX2_nobodyEverTakes_19 : decode cX2_nobodyEverTakes 19 = .ok (.if_icmp .eq 5, 3) := by decide +kernel
theorem dX2_nobodyEverTakes_22 : decode cX2_nobodyEverTakes 22 = .ok (.iconst 0, 1) := by decide +kernel
theorem dX2_nobodyEverTakes_23 : decode cX2_nobodyEverTakes 23 = .ok (.ireturn, 1) := by decide +kernel
theorem dX2_nobodyEverTakes_24 : decode cX2_nobodyEverTakes 24 = .ok (.iinc 3 1, 3) := by decide +kernel
theorem dX2_nobodyEverTakes_27 : decode cX2_nobodyEverTakes 27 = .ok (.goto (-25), 3) := by decide +kernel
theorem dX2_nobodyEverTakes_30 : decode cX2_nobodyEverTakes 30 = .ok (.iconst 1, 1) := by decide +kernel
theorem dX2_nobodyEverTakes_31 : decode cX2_nobodyEverTakes 31 = .ok (.ireturn, 1) := by decide +kernel
theorem dX3_init_0 : decode cX3_init 0 = .ok (.aload_n 0, 1) := by decide +kernel
theorem dX3_init_1 : decode cX3_init 1 = .ok (.invokespecial 1, 3) := by decide +kernel
theorem dX3_init_4 : decode cX3_init 4 = .ok (.aload_n 0, 1) := by decide +kernel
theorem dX3_init_5 : decode cX3_init 5 = .ok (.iconst 0, 1) := by decide +kernel
theorem dX3_init_6 : decode cX3_init 6 = .ok (.iload_n 1, 1) := by decide +kernel
theorem dX3_init_7 : decode cX3_init 7 = .ok (.invokestatic 7, 3) := by decide +kernel
theorem dX3_init_10 : decode cX3_init 10 = .ok (.anewarray 13, 3) := by decide +kernel
theorem dX3_init_13 : decode cX3_init 13 = .ok (.putfield 15, 3) := by decide +kernel
theorem dX3_init_16 : decode cX3_init 16 = .ok (.iconst 0, 1) := by decide +kernel
theorem dX3_init_17 : decode cX3_init 17 = .ok (.istore_n 2, 1) := by decide +kernel
theorem dX3_init_18 : decode cX3_init 18 = .ok (.iload_n 2, 1) := by decide +kernel
theorem dX3_init_19 : decode cX3_init 19 = .ok (.aload_n 0, 1) := by decide +kernel
theorem dX3_init_20 : decode cX3_init 20 = .ok (.getfield 15, 3) := by decide +kernel
theorem dX3_init_23 : decode cX3_init 23 = .ok (.arraylength, 1) := by decide +kernel
theorem dX3_init_24 : decode cX3_init 24 = .ok (.if_icmp .ge 22, 3) := by decide +kernel
theorem dX3_init_27 : decode cX3_init 27 = .ok (.aload_n 0, 1) := by decide +kernel
theorem dX3_init_28 : decode cX3_init 28 = .ok (.getfield 15, 3) := by decide +kernel
theorem dX3_init_31 : decode cX3_init 31 = .ok (.iload_n 2, 1) := by decide +kernel
theorem dX3_init_32 : decode cX3_init 32 = .ok (.new 13, 3) := by decide +kernel
theorem dX3_init_35 : decode cX3_init 35 = .ok (.dup, 1) := by decide +kernel
theorem dX3_init_36 : decode cX3_init 36 = .ok (.invokespecial 21, 3) := by decide +kernel
theorem dX3_init_39 : decode cX3_init 39 = .ok (.aastore, 1) := by decide +kernel
theorem dX3_init_40 : decode cX3_init 40 = .ok (.iinc 2 1, 3) := by decide +kernel
theorem dX3_init_43 : decode cX3_init 43 = .ok (.goto (-25), 3) := by decide +kernel
theorem dX3_init_46 : decode cX3_init 46 = .ok (.return_, 1) := by decide +kernel
theorem dX3_isFull_0 : decode cX3_isFull 0 = .ok (.aload_n 0, 1) := by decide +kernel
theorem dX3_isFull_1 : decode cX3_isFull 1 = .ok (.getfield 22, 3) := by decide +kernel
theorem dX3_isFull_4 : decode cX3_isFull 4 = .ok (.aload_n 0, 1) := by decide +kernel
theorem dX3_isFull_5 : decode cX3_isFull 5 = .ok (.getfield 15, 3) := by decide +kernel
theorem dX3_isFull_8 : decode cX3_isFull 8 = .ok (.arraylength, 1) := by decide +kernel
theorem dX3_isFull_9 : decode cX3_isFull 9 = .ok (.if_icmp .lt 7, 3) := by decide +kernel
theorem dX3_isFull_12 : decode cX3_isFull 12 = .ok (.iconst 1, 1) := by decide +kernel
theorem dX3_isFull_13 : decode cX3_isFull 13 = .ok (.goto 4, 3) := by decide +kernel
theorem dX3_isFull_16 : decode cX3_isFull 16 = .ok (.iconst 0, 1) := by decide +kernel
theorem dX3_isFull_17 : decode cX3_isFull 17 = .ok (.ireturn, 1) := by decide +kernel
theorem dX3_clear_0 : decode cX3_clear 0 = .ok (.aload_n 0, 1) := by decide +kernel
theorem dX3_clear_1 : decode cX3_clear 1 = .ok (.iconst 0, 1) := by decide +kernel
theorem dX3_clear_2 : decode cX3_clear 2 = .ok (.putfield 22, 3) := by decide +kernel
theorem dX3_clear_5 : decode cX3_clear 5 = .ok (.return_, 1) := by decide +kernel
theorem dX3_add_0 : decode cX3_add 0 = .ok (.aload_n 0, 1) := by decide +kernel
theorem dX3_add_1 : decode cX3_add 1 = .ok (.invokevirtual 26, 3) := by decide +kernel
theorem dX3_add_4 : decode cX3_add 4 = .ok (.ifCond .eq 7, 3) := by decide +kernel
theorem dX3_add_7 : decode cX3_add 7 = .ok (.aload_n 0, 1) := by decide +kernel
theorem dX3_add_8 : decode cX3_add 8 = .ok (.invokevirtual 30, 3) := by decide +kernel
theorem dX3_add_11 : decode cX3_add 11 = .ok (.aload_n 0, 1) := by decide +kernel
theorem dX3_add_12 : decode cX3_add 12 = .ok (.getfield 22, 3) := by decide +kernel
theorem dX3_add_15 : decode cX3_add 15 = .ok (.ifCond .lt 50, 3) := by decide +kernel
theorem dX3_add_18 : decode cX3_add 18 = .ok (.aload_n 0, 1) := by decide +kernel
theorem dX3_add_19 : decode cX3_add 19 = .ok (.getfield 22, 3) := by decide +kernel
theorem dX3_add_22 : decode cX3_add 22 = .ok (.aload_n 0, 1) := by decide +kernel
theorem dX3_add_23 : decode cX3_add 23 = .ok (.getfield 15, 3) := by decide +kernel
theorem dX3_add_26 : decode cX3_add 26 = .ok (.arraylength, 1) := by decide +kernel
theorem dX3_add_27 : decode cX3_add 27 = .ok (.if_icmp .ge 38, 3) := by decide +kernel
theorem dX3_add_30 : decode cX3_add 30 = .ok (.aload_n 0, 1) := by decide +kernel
theorem dX3_add_31 : decode cX3_add 31 = .ok (.getfield 15, 3) := by decide +kernel
theorem dX3_add_34 : decode cX3_add 34 = .ok (.aload_n 0, 1) := by decide +kernel
theorem dX3_add_35 : decode cX3_add 35 = .ok (.getfield 22, 3) := by decide +kernel
theorem dX3_add_38 : decode cX3_add 38 = .ok (.aaload, 1) := by decide +kernel
theorem dX3_add_39 : decode cX3_add 39 = .ok (.ifnull 26, 3) := by decide +kernel
theorem dX3_add_42 : decode cX3_add 42 = .ok (.aload_n 0, 1) := by decide +kernel
theorem dX3_add_43 : decode cX3_add 43 = .ok (.getfield 15, 3) := by decide +kernel
theorem dX3_add_46 : decode cX3_add 46 = .ok (.aload_n 0, 1) := by decide +kernel
theorem dX3_add_47 : decode cX3_add 47 = .ok (.getfield 22, 3) := by decide +kernel
theorem dX3_add_50 : decode cX3_add 50 = .ok (.aaload, 1) := by decide +kernel
theorem dX3_add_51 : decode cX3_add 51 = .ok (.aload_n 1, 1) := by decide +kernel
theorem dX3_add_52 : decode cX3_add 52 = .ok (.invokevirtual 33, 3) := by decide +kernel
theorem dX3_add_55 : decode cX3_add 55 = .ok (.aload_n 0, 1) := by decide +kernel
theorem dX3_add_56 : decode cX3_add 56 = .ok (.dup, 1) := by decide +kernel
theorem dX3_add_57 : decode cX3_add 57 = .ok (.getfield 22, 3) := by decide +kernel
theorem dX3_add_60 : decode cX3_add 60 = .ok (.iconst 1, 1) := by decide +kernel
theorem dX3_add_61 : decode cX3_add 61 = .ok (.iadd, 1) := by decide +kernel
theorem dX3_add_62 : decode cX3_add 62 = .ok (.putfield 22, 3) := by decide +kernel
theorem dX3_add_65 : decode cX3_add 65 = .ok (.return_, 1) := by decide +kernel
theorem dX3_moveLastTo_0 : decode cX3_moveLastTo 0 = .ok (.aload_n 0, 1) := by decide +kernel
theorem dX3_moveLastTo_1 : decode cX3_moveLastTo 1 = .ok (.getfield 22, 3) := by decide +kernel
theorem dX3_moveLastTo_4 : decode cX3_moveLastTo 4 = .ok (.ifCond .le 38, 3) := by decide +kernel
theorem dX3_moveLastTo_7 : decode cX3_moveLastTo 7 = .ok (.aload_n 0, 1) := by decide +kernel
theorem dX3_moveLastTo_8 : decode cX3_moveLastTo 8 = .ok (.getfield 22, 3) := by decide +kernel
theorem dX3_moveLastTo_11 : decode cX3_moveLastTo 11 = .ok (.aload_n 0, 1) := by decide +kernel
theorem dX3_moveLastTo_12 : decode cX3_moveLastTo 12 = .ok (.getfield 15, 3) := by decide +kernel
theorem dX3_moveLastTo_15 : decode cX3_moveLastTo 15 = .ok (.arraylength, 1) := by decide +kernel
theorem dX3_moveLastTo_16 : decode cX3_moveLastTo 16 = .ok (.if_icmp .gt 26, 3) := by decide +kernel
theorem dX3_moveLastTo_19 : decode cX3_moveLastTo 19 = .ok (.aload_n 0, 1) := by decide +kernel
theorem dX3_moveLastTo_20 : decode cX3_moveLastTo 20 = .ok (.dup, 1) := by decide +kernel
theorem dX3_moveLastTo_21 : decode cX3_moveLastTo 21 = .ok (.getfield 22, 3) := by decide +kernel
theorem dX3_moveLastTo_24 : decode cX3_moveLastTo 24 = .ok (.iconst 1, 1) := by decide +kernel
theorem dX3_moveLastTo_25 : decode cX3_moveLastTo 25 = .ok (.isub, 1) := by decide +kernel
theorem dX3_moveLastTo_26 : decode cX3_moveLastTo 26 = .ok (.putfield 22, 3) := by decide +kernel
theorem dX3_moveLastTo_29 : decode cX3_moveLastTo 29 = .ok (.aload_n 1, 1) := by decide +kernel
theorem dX3_moveLastTo_30 : decode cX3_moveLastTo 30 = .ok (.aload_n 0, 1) := by decide +kernel
theorem dX3_moveLastTo_31 : decode cX3_moveLastTo 31 = .ok (.getfield 15, 3) := by decide +kernel
theorem dX3_moveLastTo_34 : decode cX3_moveLastTo 34 = .ok (.aload_n 0, 1) := by decide +kernel
theorem dX3_moveLastTo_35 : decode cX3_moveLastTo 35 = .ok (.getfield 22, 3) := by decide +kernel
theorem dX3_moveLastTo_38 : decode cX3_moveLastTo 38 = .ok (.aaload, 1) := by decide +kernel
theorem dX3_moveLastTo_39 : decode cX3_moveLastTo 39 = .ok (.invokevirtual 33, 3) := by decide +kernel
theorem dX3_moveLastTo_42 : decode cX3_moveLastTo 42 = .ok (.return_, 1) := by decide +kernel
theorem dX3_dropOldest_0 : decode cX3_dropOldest 0 = .ok (.aload_n 0, 1) := by decide +kernel
theorem dX3_dropOldest_1 : decode cX3_dropOldest 1 = .ok (.getfield 22, 3) := by decide +kernel
theorem dX3_dropOldest_4 : decode cX3_dropOldest 4 = .ok (.ifCond .le 72, 3) := by decide +kernel
theorem dX3_dropOldest_7 : decode cX3_dropOldest 7 = .ok (.aload_n 0, 1) := by decide +kernel
theorem dX3_dropOldest_8 : decode cX3_dropOldest 8 = .ok (.getfield 22, 3) := by decide +kernel
theorem dX3_dropOldest_11 : decode cX3_dropOldest 11 = .ok (.aload_n 0, 1) := by decide +kernel
theorem dX3_dropOldest_12 : decode cX3_dropOldest 12 = .ok (.getfield 15, 3) := by decide +kernel
theorem dX3_dropOldest_15 : decode cX3_dropOldest 15 = .ok (.arraylength, 1) := by decide +kernel
theorem dX3_dropOldest_16 : decode cX3_dropOldest 16 = .ok (.if_icmp .gt 60, 3) := by decide +kernel
theorem dX3_dropOldest_19 : decode cX3_dropOldest 19 = .ok (.aload_n 0, 1) := by decide +kernel
theorem dX3_dropOldest_20 : decode cX3_dropOldest 20 = .ok (.getfield 15, 3) := by decide +kernel
theorem dX3_dropOldest_23 : decode cX3_dropOldest 23 = .ok (.iconst 0, 1) := by decide +kernel
theorem dX3_dropOldest_24 : decode cX3_dropOldest 24 = .ok (.aaload, 1) := by decide +kernel
theorem dX3_dropOldest_25 : decode cX3_dropOldest 25 = .ok (.astore_n 1, 1) := by decide +kernel
theorem dX3_dropOldest_26 : decode cX3_dropOldest 26 = .ok (.iconst 1, 1) := by decide +kernel
theorem dX3_dropOldest_27 : decode cX3_dropOldest 27 = .ok (.istore_n 2, 1) := by decide +kernel
theorem dX3_dropOldest_28 : decode cX3_dropOldest 28 = .ok (.iload_n 2, 1) := by decide +kernel
theorem dX3_dropOldest_29 : decode cX3_dropOldest 29 = .ok (.aload_n 0, 1) := by decide +kernel
theorem dX3_dropOldest_30 : decode cX3_dropOldest 30 = .ok (.getfield 22, 3) := by decide +kernel
theorem dX3_dropOldest_33 : decode cX3_dropOldest 33 = .ok (.if_icmp .ge 23, 3) := by decide +kernel
theorem dX3_dropOldest_36 : decode cX3_dropOldest 36 = .ok (.aload_n 0, 1) := by decide +kernel
theorem dX3_dropOldest_37 : decode cX3_dropOldest 37 = .ok (.getfield 15, 3) := by decide +kernel
theorem dX3_dropOldest_40 : decode cX3_dropOldest 40 = .ok (.iload_n 2, 1) := by decide +kernel
theorem dX3_dropOldest_41 : decode cX3_dropOldest 41 = .ok (.iconst 1, 1) := by decide +kernel
theorem dX3_dropOldest_42 : decode cX3_dropOldest 42 = .ok (.isub, 1) := by decide +kernel
theorem dX3_dropOldest_43 : decode cX3_dropOldest 43 = .ok (.aload_n 0, 1) := by decide +kernel
theorem dX3_dropOldest_44 : decode cX3_dropOldest 44 = .ok (.getfield 15, 3) := by decide +kernel
theorem dX3_dropOldest_47 : decode cX3_dropOldest 47 = .ok (.iload_n 2, 1) := by decide +kernel
theorem dX3_dropOldest_48 : decode cX3_dropOldest 48 = .ok (.aaload, 1) := by decide +kernel
theorem dX3_dropOldest_49 : decode cX3_dropOldest 49 = .ok (.aastore, 1) := by decide +kernel
theorem dX3_dropOldest_50 : decode cX3_dropOldest 50 = .ok (.iinc 2 1, 3) := by decide +kernel
theorem dX3_dropOldest_53 : decode cX3_dropOldest 53 = .ok (.goto (-25), 3) := by decide +kernel
theorem dX3_dropOldest_56 : decode cX3_dropOldest 56 = .ok (.aload_n 0, 1) := by decide +kernel
theorem dX3_dropOldest_57 : decode cX3_dropOldest 57 = .ok (.dup, 1) := by decide +kernel
theorem dX3_dropOldest_58 : decode cX3_dropOldest 58 = .ok (.getfield 22, 3) := by decide +kernel
theorem dX3_dropOldest_61 : decode cX3_dropOldest 61 = .ok (.iconst 1, 1) := by decide +kernel
theorem dX3_dropOldest_62 : decode cX3_dropOldest 62 = .ok (.isub, 1) := by decide +kernel
theorem dX3_dropOldest_63 : decode cX3_dropOldest 63 = .ok (.putfield 22, 3) := by decide +kernel
theorem dX3_dropOldest_66 : decode cX3_dropOldest 66 = .ok (.aload_n 0, 1) := by decide +kernel
theorem dX3_dropOldest_67 : decode cX3_dropOldest 67 = .ok (.getfield 15, 3) := by decide +kernel
theorem dX3_dropOldest_70 : decode cX3_dropOldest 70 = .ok (.aload_n 0, 1) := by decide +kernel
theorem dX3_dropOldest_71 : decode cX3_dropOldest 71 = .ok (.getfield 22, 3) := by decide +kernel
theorem dX3_dropOldest_74 : decode cX3_dropOldest 74 = .ok (.aload_n 1, 1) := by decide +kernel
theorem dX3_dropOldest_75 : decode cX3_dropOldest 75 = .ok (.aastore, 1) := by decide +kernel
theorem dX3_dropOldest_76 : decode cX3_dropOldest 76 = .ok (.return_, 1) := by decide +kernel
theorem dX4_init_0 : decode cX4_init 0 = .ok (.aload_n 0, 1) := by decide +kernel
theorem dX4_init_1 : decode cX4_init 1 = .ok (.invokespecial 5, 3) := by decide +kernel
theorem dX4_init_4 : decode cX4_init 4 = .ok (.aload_n 0, 1) := by decide +kernel
theorem dX4_init_5 : decode cX4_init 5 = .ok (.bipush 20, 2) := by decide +kernel
theorem dX4_init_7 : decode cX4_init 7 = .ok (.newarray .int, 2) := by decide +kernel
theorem dX4_init_9 : decode cX4_init 9 = .ok (.putfield 11, 3) := by decide +kernel
theorem dX4_init_12 : decode cX4_init 12 = .ok (.return_, 1) := by decide +kernel
theorem dX4_become_0 : decode cX4_become 0 = .ok (.aload_n 1, 1) := by decide +kernel
theorem dX4_become_1 : decode cX4_become 1 = .ok (.ifnull 34, 3) := by decide +kernel
theorem dX4_become_4 : decode cX4_become 4 = .ok (.aload_n 0, 1) := by decide +kernel
theorem dX4_become_5 : decode cX4_become 5 = .ok (.aload_n 1, 1) := by decide +kernel
theorem dX4_become_6 : decode cX4_become 6 = .ok (.getfield 15, 3) := by decide +kernel
theorem dX4_become_9 : decode cX4_become 9 = .ok (.putfield 15, 3) := by decide +kernel
theorem dX4_become_12 : decode cX4_become 12 = .ok (.aload_n 0, 1) := by decide +kernel
theorem dX4_become_13 : decode cX4_become 13 = .ok (.aload_n 1, 1) := by decide +kernel
theorem dX4_become_14 : decode cX4_become 14 = .ok (.getfield 19, 3) := by decide +kernel
theorem dX4_become_17 : decode cX4_become 17 = .ok (.putfield 19, 3) := by decide +kernel
theorem dX4_become_20 : decode cX4_become 20 = .ok (.aload_n 1, 1) := by decide +kernel
theorem dX4_become_21 : decode cX4_become 21 = .ok (.getfield 11, 3) := by decide +kernel
theorem dX4_become_24 : decode cX4_become 24 = .ok (.iconst 0, 1) := by decide +kernel
theorem dX4_become_25 : decode cX4_become 25 = .ok (.aload_n 0, 1) := by decide +kernel
theorem dX4_become_26 : decode cX4_become 26 = .ok (.getfield 11, 3) := by decide +kernel
theorem dX4_become_29 : decode cX4_become 29 = .ok (.iconst 0, 1) := by decide +kernel
theorem dX4_become_30 : decode cX4_become 30 = .ok (.bipush 20, 2) := by decide +kernel
theorem dX4_become_32 : decode cX4_become 32 = .ok (.invokestatic 22, 3) := by decide +kernel
theorem dX4_become_35 : decode cX4_become 35 = .ok (.return_, 1) := by decide +kernel
theorem dX4_clear_0 : decode cX4_clear 0 = .ok (.aload_n 0, 1) := by decide +kernel
theorem dX4_clear_1 : decode cX4_clear 1 = .ok (.iconst 0, 1) := by decide +kernel
theorem dX4_clear_2 : decode cX4_clear 2 = .ok (.putfield 15, 3) := by decide +kernel
theorem dX4_clear_5 : decode cX4_clear 5 = .ok (.aload_n 0, 1) := by decide +kernel
theorem dX4_clear_6 : decode cX4_clear 6 = .ok (.iconst 0, 1) := by decide +kernel
theorem dX4_clear_7 : decode cX4_clear 7 = .ok (.putfield 19, 3) := by decide +kernel
theorem dX4_clear_10 : decode cX4_clear 10 = .ok (.iconst 0, 1) := by decide +kernel
theorem dX4_clear_11 : decode cX4_clear 11 = .ok (.istore_n 1, 1) := by decide +kernel
theorem dX4_clear_12 : decode cX4_clear 12 = .ok (.iload_n 1, 1) := by decide +kernel
theorem dX4_clear_13 : decode cX4_clear 13 = .ok (.aload_n 0, 1) := by decide +kernel
theorem dX4_clear_14 : decode cX4_clear 14 = .ok (.getfield 11, 3) := by decide +kernel
theorem dX4_clear_17 : decode cX4_clear 17 = .ok (.arraylength, 1) := by decide +kernel
theorem dX4_clear_18 : decode cX4_clear 18 = .ok (.if_icmp .ge 16, 3) := by decide +kernel
theorem dX4_clear_21 : decode cX4_clear 21 = .ok (.aload_n 0, 1) := by decide +kernel
theorem dX4_clear_22 : decode cX4_clear 22 = .ok (.getfield 11, 3) := by decide +kernel
theorem dX4_clear_25 : decode cX4_clear 25 = .ok (.iload_n 1, 1) := by decide +kernel
theorem dX4_clear_26 : decode cX4_clear 26 = .ok (.iconst 0, 1) := by decide +kernel
theorem dX4_clear_27 : decode cX4_clear 27 = .ok (.iastore, 1) := by decide +kernel
theorem dX4_clear_28 : decode cX4_clear 28 = .ok (.iinc 1 1, 3) := by decide +kernel
theorem dX4_clear_31 : decode cX4_clear 31 = .ok (.goto (-19), 3) := by decide +kernel
theorem dX4_clear_34 : decode cX4_clear 34 = .ok (.return_, 1) := by decide +kernel
theorem dX4_deadFrom_0 : decode cX4_deadFrom 0 = .ok (.iload_n 1, 1) := by decide +kernel
theorem dX4_deadFrom_1 : decode cX4_deadFrom 1 = .ok (.ifCond .lt 18, 3) := by decide +kernel
theorem dX4_deadFrom_4 : decode cX4_deadFrom 4 = .ok (.iload_n 1, 1) := by decide +kernel
theorem dX4_deadFrom_5 : decode cX4_deadFrom 5 = .ok (.bipush 8, 2) := by decide +kernel
theorem dX4_deadFrom_7 : decode cX4_deadFrom 7 = .ok (.if_icmp .ge 12, 3) := by decide +kernel
theorem dX4_deadFrom_10 : decode cX4_deadFrom 10 = .ok (.aload_n 0, 1) := by decide +kernel
theorem dX4_deadFrom_11 : decode cX4_deadFrom 11 = .ok (.getfield 11, 3) := by decide +kernel
theorem dX4_deadFrom_14 : decode cX4_deadFrom 14 = .ok (.iload_n 1, 1) := by decide +kernel
theorem dX4_deadFrom_15 : decode cX4_deadFrom 15 = .ok (.iaload, 1) := by decide +kernel
theorem dX4_deadFrom_16 : decode cX4_deadFrom 16 = .ok (.goto 5, 3) := by decide +kernel
theorem dX4_deadFrom_19 : decode cX4_deadFrom 19 = .ok (.bipush 100, 2) := by decide +kernel
theorem dX4_deadFrom_21 : decode cX4_deadFrom 21 = .ok (.ireturn, 1) := by decide +kernel
theorem dX4_setDeadFrom_0 : decode cX4_setDeadFrom 0 = .ok (.iload_n 1, 1) := by decide +kernel
theorem dX4_setDeadFrom_1 : decode cX4_setDeadFrom 1 = .ok (.ifCond .lt 16, 3) := by decide +kernel
theorem dX4_setDeadFrom_4 : decode cX4_setDeadFrom 4 = .ok (.iload_n 1, 1) := by decide +kernel
theorem dX4_setDeadFrom_5 : decode cX4_setDeadFrom 5 = .ok (.bipush 8, 2) := by decide +kernel
theorem dX4_setDeadFrom_7 : decode cX4_setDeadFrom 7 = .ok (.if_icmp .ge 10, 3) := by decide +kernel
theorem dX4_setDeadFrom_10 : decode cX4_setDeadFrom 10 = .ok (.aload_n 0, 1) := by decide +kernel
theorem dX4_setDeadFrom_11 : decode cX4_setDeadFrom 11 = .ok (.getfield 11, 3) := by decide +kernel
theorem dX4_setDeadFrom_14 : decode cX4_setDeadFrom 14 = .ok (.iload_n 1, 1) := by decide +kernel
theorem dX4_setDeadFrom_15 : decode cX4_setDeadFrom 15 = .ok (.iload_n 2, 1) := by decide +kernel
theorem dX4_setDeadFrom_16 : decode cX4_setDeadFrom 16 = .ok (.iastore, 1) := by decide +kernel
theorem dX4_setDeadFrom_17 : decode cX4_setDeadFrom 17 = .ok (.return_, 1) := by decide +kernel
theorem dX4_isGone_0 : decode cX4_isGone 0 = .ok (.iload_n 1, 1) := by decide +kernel
theorem dX4_isGone_1 : decode cX4_isGone 1 = .ok (.ifCond .lt 25, 3) := by decide +kernel
theorem dX4_isGone_4 : decode cX4_isGone 4 = .ok (.iload_n 1, 1) := by decide +kernel
theorem dX4_isGone_5 : decode cX4_isGone 5 = .ok (.bipush 8, 2) := by decide +kernel
theorem dX4_isGone_7 : decode cX4_isGone 7 = .ok (.if_icmp .ge 19, 3) := by decide +kernel
theorem dX4_isGone_10 : decode cX4_isGone 10 = .ok (.aload_n 0, 1) := by decide +kernel
theorem dX4_isGone_11 : decode cX4_isGone 11 = .ok (.getfield 19, 3) := by decide +kernel
theorem dX4_isGone_14 : decode cX4_isGone 14 = .ok (.iload_n 1, 1) := by decide +kernel
theorem dX4_isGone_15 : decode cX4_isGone 15 = .ok (.ishr, 1) := by decide +kernel
theorem dX4_isGone_16 : decode cX4_isGone 16 = .ok (.iconst 1, 1) := by decide +kernel
theorem dX4_isGone_17 : decode cX4_isGone 17 = .ok (.iand, 1) := by decide +kernel
theorem dX4_isGone_18 : decode cX4_isGone 18 = .ok (.iconst 1, 1) := by decide +kernel
theorem dX4_isGone_19 : decode cX4_isGone 19 = .ok (.if_icmp .ne 7, 3) := by decide +kernel
theorem dX4_isGone_22 : decode cX4_isGone 22 = .ok (.iconst 1, 1) := by decide +kernel
theorem dX4_isGone_23 : decode cX4_isGone 23 = .ok (.goto 4, 3) := by decide +kernel
theorem dX4_isGone_26 : decode cX4_isGone 26 = .ok (.iconst 0, 1) := by decide +kernel
theorem dX4_isGone_27 : decode cX4_isGone 27 = .ok (.ireturn, 1) := by decide +kernel
theorem dX4_stack_0 : decode cX4_stack 0 = .ok (.iload_n 1, 1) := by decide +kernel
theorem dX4_stack_1 : decode cX4_stack 1 = .ok (.ifCond .lt 20, 3) := by decide +kernel
theorem dX4_stack_4 : decode cX4_stack 4 = .ok (.iload_n 1, 1) := by decide +kernel
theorem dX4_stack_5 : decode cX4_stack 5 = .ok (.iconst 4, 1) := by decide +kernel
theorem dX4_stack_6 : decode cX4_stack 6 = .ok (.if_icmp .ge 15, 3) := by decide +kernel
theorem dX4_stack_9 : decode cX4_stack 9 = .ok (.aload_n 0, 1) := by decide +kernel
theorem dX4_stack_10 : decode cX4_stack 10 = .ok (.getfield 11, 3) := by decide +kernel
theorem dX4_stack_13 : decode cX4_stack 13 = .ok (.bipush 8, 2) := by decide +kernel
theorem dX4_stack_15 : decode cX4_stack 15 = .ok (.iload_n 1, 1) := by decide +kernel
theorem dX4_stack_16 : decode cX4_stack 16 = .ok (.iadd, 1) := by decide +kernel
theorem dX4_stack_17 : decode cX4_stack 17 = .ok (.iaload, 1) := by decide +kernel
theorem dX4_stack_18 : decode cX4_stack 18 = .ok (.goto 4, 3) := by decide +kernel
theorem dX4_stack_21 : decode cX4_stack 21 = .ok (.iconst 0, 1) := by decide +kernel
theorem dX4_stack_22 : decode cX4_stack 22 = .ok (.ireturn, 1) := by decide +kernel
theorem dX4_reach_0 : decode cX4_reach 0 = .ok (.iload_n 1, 1) := by decide +kernel
theorem dX4_reach_1 : decode cX4_reach 1 = .ok (.ifCond .lt 20, 3) := by decide +kernel
theorem dX4_reach_4 : decode cX4_reach 4 = .ok (.iload_n 1, 1) := by decide +kernel
theorem dX4_reach_5 : decode cX4_reach 5 = .ok (.iconst 4, 1) := by decide +kernel
theorem dX4_reach_6 : decode cX4_reach 6 = .ok (.if_icmp .ge 15, 3) := by decide +kernel
theorem dX4_reach_9 : decode cX4_reach 9 = .ok (.aload_n 0, 1) := by decide +kernel
theorem dX4_reach_10 : decode cX4_reach 10 = .ok (.getfield 11, 3) := by decide +kernel
theorem dX4_reach_13 : decode cX4_reach 13 = .ok (.bipush 12, 2) := by decide +kernel
theorem dX4_reach_15 : decode cX4_reach 15 = .ok (.iload_n 1, 1) := by decide +kernel
theorem dX4_reach_16 : decode cX4_reach 16 = .ok (.iadd, 1) := by decide +kernel
theorem dX4_reach_17 : decode cX4_reach 17 = .ok (.iaload, 1) := by decide +kernel
theorem dX4_reach_18 : decode cX4_reach 18 = .ok (.goto 4, 3) := by decide +kernel
theorem dX4_reach_21 : decode cX4_reach 21 = .ok (.iconst 0, 1) := by decide +kernel
theorem dX4_reach_22 : decode cX4_reach 22 = .ok (.ireturn, 1) := by decide +kernel
theorem dX4_setReach_0 : decode cX4_setReach 0 = .ok (.iload_n 1, 1) := by decide +kernel
theorem dX4_setReach_1 : decode cX4_setReach 1 = .ok (.ifCond .lt 18, 3) := by decide +kernel
theorem dX4_setReach_4 : decode cX4_setReach 4 = .ok (.iload_n 1, 1) := by decide +kernel
theorem dX4_setReach_5 : decode cX4_setReach 5 = .ok (.iconst 4, 1) := by decide +kernel
theorem dX4_setReach_6 : decode cX4_setReach 6 = .ok (.if_icmp .ge 13, 3) := by decide +kernel
theorem dX4_setReach_9 : decode cX4_setReach 9 = .ok (.aload_n 0, 1) := by decide +kernel
theorem dX4_setReach_10 : decode cX4_setReach 10 = .ok (.getfield 11, 3) := by decide +kernel
theorem dX4_setReach_13 : decode cX4_setReach 13 = .ok (.bipush 12, 2) := by decide +kernel
theorem dX4_setReach_15 : decode cX4_setReach 15 = .ok (.iload_n 1, 1) := by decide +kernel
theorem dX4_setReach_16 : decode cX4_setReach 16 = .ok (.iadd, 1) := by decide +kernel
theorem dX4_setReach_17 : decode cX4_setReach 17 = .ok (.iload_n 2, 1) := by decide +kernel
theorem dX4_setReach_18 : decode cX4_setReach 18 = .ok (.iastore, 1) := by decide +kernel
theorem dX4_setReach_19 : decode cX4_setReach 19 = .ok (.return_, 1) := by decide +kernel
theorem dX4_carried_0 : decode cX4_carried 0 = .ok (.iload_n 1, 1) := by decide +kernel
theorem dX4_carried_1 : decode cX4_carried 1 = .ok (.ifCond .lt 20, 3) := by decide +kernel
theorem dX4_carried_4 : decode cX4_carried 4 = .ok (.iload_n 1, 1) := by decide +kernel
theorem dX4_carried_5 : decode cX4_carried 5 = .ok (.iconst 4, 1) := by decide +kernel
theorem dX4_carried_6 : decode cX4_carried 6 = .ok (.if_icmp .ge 15, 3) := by decide +kernel
theorem dX4_carried_9 : decode cX4_carried 9 = .ok (.aload_n 0, 1) := by decide +kernel
theorem dX4_carried_10 : decode cX4_carried 10 = .ok (.getfield 11, 3) := by decide +kernel
theorem dX4_carried_13 : decode cX4_carried 13 = .ok (.bipush 16, 2) := by decide +kernel
theorem dX4_carried_15 : decode cX4_carried 15 = .ok (.iload_n 1, 1) := by decide +kernel
theorem dX4_carried_16 : decode cX4_carried 16 = .ok (.iadd, 1) := by decide +kernel
theorem dX4_carried_17 : decode cX4_carried 17 = .ok (.iaload, 1) := by decide +kernel
theorem dX4_carried_18 : decode cX4_carried 18 = .ok (.goto 4, 3) := by decide +kernel
theorem dX4_carried_21 : decode cX4_carried 21 = .ok (.iconst 0, 1) := by decide +kernel
theorem dX4_carried_22 : decode cX4_carried 22 = .ok (.ireturn, 1) := by decide +kernel
theorem dX4_pick_0 : decode cX4_pick 0 = .ok (.iload_n 1, 1) := by decide +kernel
theorem dX4_pick_1 : decode cX4_pick 1 = .ok (.ifCond .lt 56, 3) := by decide +kernel
theorem dX4_pick_4 : decode cX4_pick 4 = .ok (.iload_n 1, 1) := by decide +kernel
theorem dX4_pick_5 : decode cX4_pick 5 = .ok (.iconst 4, 1) := by decide +kernel
theorem dX4_pick_6 : decode cX4_pick 6 = .ok (.if_icmp .ge 51, 3) := by decide +kernel
theorem dX4_pick_9 : decode cX4_pick 9 = .ok (.iload_n 2, 1) := by decide +kernel
theorem dX4_pick_10 : decode cX4_pick 10 = .ok (.ifCond .lt 47, 3) := by decide +kernel
theorem dX4_pick_13 : decode cX4_pick 13 = .ok (.iload_n 2, 1) := by decide +kernel
theorem dX4_pick_14 : decode cX4_pick 14 = .ok (.bipush 8, 2) := by decide +kernel
theorem dX4_pick_16 : decode cX4_pick 16 = .ok (.if_icmp .ge 41, 3) := by decide +kernel
theorem dX4_pick_19 : decode cX4_pick 19 = .ok (.aload_n 0, 1) := by decide +kernel
theorem dX4_pick_20 : decode cX4_pick 20 = .ok (.dup, 1) := by decide +kernel
theorem dX4_pick_21 : decode cX4_pick 21 = .ok (.getfield 19, 3) := by decide +kernel
theorem dX4_pick_24 : decode cX4_pick 24 = .ok (.iconst 1, 1) := by decide +kernel
theorem dX4_pick_25 : decode cX4_pick 25 = .ok (.iload_n 2, 1) := by decide +kernel
theorem dX4_pick_26 : decode cX4_pick 26 = .ok (.ishl, 1) := by decide +kernel
theorem dX4_pick_27 : decode cX4_pick 27 = .ok (.ior, 1) := by decide +kernel
theorem dX4_pick_28 : decode cX4_pick 28 = .ok (.putfield 19, 3) := by decide +kernel
theorem dX4_pick_31 : decode cX4_pick 31 = .ok (.aload_n 0, 1) := by decide +kernel
theorem dX4_pick_32 : decode cX4_pick 32 = .ok (.getfield 11, 3) := by decide +kernel
theorem dX4_pick_35 : decode cX4_pick 35 = .ok (.bipush 8, 2) := by decide +kernel
theorem dX4_pick_37 : decode cX4_pick 37 = .ok (.iload_n 1, 1) := by decide +kernel
theorem dX4_pick_38 : decode cX4_pick 38 = .ok (.iadd, 1) := by decide +kernel
theorem dX4_pick_39 : decode cX4_pick 39 = .ok (.dup2, 1) := by decide +kernel
theorem dX4_pick_40 : decode cX4_pick 40 = .ok (.iaload, 1) := by decide +kernel
theorem dX4_pick_41 : decode cX4_pick 41 = .ok (.iload_n 3, 1) := by decide +kernel
theorem dX4_pick_42 : decode cX4_pick 42 = .ok (.iadd, 1) := by decide +kernel
theorem dX4_pick_43 : decode cX4_pick 43 = .ok (.iastore, 1) := by decide +kernel
theorem dX4_pick_44 : decode cX4_pick 44 = .ok (.aload_n 0, 1) := by decide +kernel
theorem dX4_pick_45 : decode cX4_pick 45 = .ok (.getfield 11, 3) := by decide +kernel
theorem dX4_pick_48 : decode cX4_pick 48 = .ok (.bipush 16, 2) := by decide +kernel
theorem dX4_pick_50 : decode cX4_pick 50 = .ok (.iload_n 1, 1) := by decide +kernel
theorem dX4_pick_51 : decode cX4_pick 51 = .ok (.iadd, 1) := by decide +kernel
theorem dX4_pick_52 : decode cX4_pick 52 = .ok (.dup2, 1) := by decide +kernel
theorem dX4_pick_53 : decode cX4_pick 53 = .ok (.iaload, 1) := by decide +kernel
theorem dX4_pick_54 : decode cX4_pick 54 = .ok (.iload_n 3, 1) := by decide +kernel
theorem dX4_pick_55 : decode cX4_pick 55 = .ok (.iadd, 1) := by decide +kernel
theorem dX4_pick_56 : decode cX4_pick 56 = .ok (.iastore, 1) := by decide +kernel
theorem dX4_pick_57 : decode cX4_pick 57 = .ok (.return_, 1) := by decide +kernel
theorem dX4_loseStack_0 : decode cX4_loseStack 0 = .ok (.iload_n 1, 1) := by decide +kernel
theorem dX4_loseStack_1 : decode cX4_loseStack 1 = .ok (.ifCond .lt 18, 3) := by decide +kernel
theorem dX4_loseStack_4 : decode cX4_loseStack 4 = .ok (.iload_n 1, 1) := by decide +kernel
theorem dX4_loseStack_5 : decode cX4_loseStack 5 = .ok (.iconst 4, 1) := by decide +kernel
theorem dX4_loseStack_6 : decode cX4_loseStack 6 = .ok (.if_icmp .ge 13, 3) := by decide +kernel
theorem dX4_loseStack_9 : decode cX4_loseStack 9 = .ok (.aload_n 0, 1) := by decide +kernel
theorem dX4_loseStack_10 : decode cX4_loseStack 10 = .ok (.getfield 11, 3) := by decide +kernel
theorem dX4_loseStack_13 : decode cX4_loseStack 13 = .ok (.bipush 8, 2) := by decide +kernel
theorem dX4_loseStack_15 : decode cX4_loseStack 15 = .ok (.iload_n 1, 1) := by decide +kernel
theorem dX4_loseStack_16 : decode cX4_loseStack 16 = .ok (.iadd, 1) := by decide +kernel
theorem dX4_loseStack_17 : decode cX4_loseStack 17 = .ok (.iconst 0, 1) := by decide +kernel
theorem dX4_loseStack_18 : decode cX4_loseStack 18 = .ok (.iastore, 1) := by decide +kernel
theorem dX4_loseStack_19 : decode cX4_loseStack 19 = .ok (.return_, 1) := by decide +kernel
theorem dX4_goBy_0 : decode cX4_goBy 0 = .ok (.aload_n 0, 1) := by decide +kernel
theorem dX4_goBy_1 : decode cX4_goBy 1 = .ok (.dup, 1) := by decide +kernel
theorem dX4_goBy_2 : decode cX4_goBy 2 = .ok (.getfield 15, 3) := by decide +kernel
theorem dX4_goBy_5 : decode cX4_goBy 5 = .ok (.iload_n 1, 1) := by decide +kernel
theorem dX4_goBy_6 : decode cX4_goBy 6 = .ok (.iadd, 1) := by decide +kernel
theorem dX4_goBy_7 : decode cX4_goBy 7 = .ok (.putfield 15, 3) := by decide +kernel
theorem dX4_goBy_10 : decode cX4_goBy 10 = .ok (.iconst 0, 1) := by decide +kernel
theorem dX4_goBy_11 : decode cX4_goBy 11 = .ok (.istore_n 2, 1) := by decide +kernel
theorem dX4_goBy_12 : decode cX4_goBy 12 = .ok (.iload_n 2, 1) := by decide +kernel
theorem dX4_goBy_13 : decode cX4_goBy 13 = .ok (.iconst 4, 1) := by decide +kernel
theorem dX4_goBy_14 : decode cX4_goBy 14 = .ok (.if_icmp .ge 19, 3) := by decide +kernel
theorem dX4_goBy_17 : decode cX4_goBy 17 = .ok (.aload_n 0, 1) := by decide +kernel
theorem dX4_goBy_18 : decode cX4_goBy 18 = .ok (.getfield 11, 3) := by decide +kernel
theorem dX4_goBy_21 : decode cX4_goBy 21 = .ok (.bipush 16, 2) := by decide +kernel
theorem dX4_goBy_23 : decode cX4_goBy 23 = .ok (.iload_n 2, 1) := by decide +kernel
theorem dX4_goBy_24 : decode cX4_goBy 24 = .ok (.iadd, 1) := by decide +kernel
theorem dX4_goBy_25 : decode cX4_goBy 25 = .ok (.iconst 0, 1) := by decide +kernel
theorem dX4_goBy_26 : decode cX4_goBy 26 = .ok (.iastore, 1) := by decide +kernel
theorem dX4_goBy_27 : decode cX4_goBy 27 = .ok (.iinc 2 1, 3) := by decide +kernel
theorem dX4_goBy_30 : decode cX4_goBy 30 = .ok (.goto (-18), 3) := by decide +kernel
theorem dX4_goBy_33 : decode cX4_goBy 33 = .ok (.return_, 1) := by decide +kernel
theorem dX5_init_0 : decode cX5_init 0 = .ok (.aload_n 0, 1) := by decide +kernel
theorem dX5_init_1 : decode cX5_init 1 = .ok (.invokespecial 3, 3) := by decide +kernel
theorem dX5_init_4 : decode cX5_init 4 = .ok (.aload_n 0, 1) := by decide +kernel
theorem dX5_init_5 : decode cX5_init 5 = .ok (.sipush 200, 3) := by decide +kernel
theorem dX5_init_8 : decode cX5_init 8 = .ok (.newarray .char, 2) := by decide +kernel
theorem dX5_init_10 : decode cX5_init 10 = .ok (.putfield 11, 3) := by decide +kernel
theorem dX5_init_13 : decode cX5_init 13 = .ok (.aload_n 0, 1) := by decide +kernel
theorem dX5_init_14 : decode cX5_init 14 = .ok (.iconst 4, 1) := by decide +kernel
theorem dX5_init_15 : decode cX5_init 15 = .ok (.newarray .int, 2) := by decide +kernel
theorem dX5_init_17 : decode cX5_init 17 = .ok (.putfield 15, 3) := by decide +kernel
theorem dX5_init_20 : decode cX5_init 20 = .ok (.return_, 1) := by decide +kernel
theorem dX5_isFull_0 : decode cX5_isFull 0 = .ok (.aload_n 0, 1) := by decide +kernel
theorem dX5_isFull_1 : decode cX5_isFull 1 = .ok (.getfield 19, 3) := by decide +kernel
theorem dX5_isFull_4 : decode cX5_isFull 4 = .ok (.sipush 200, 3) := by decide +kernel
theorem dX5_isFull_7 : decode cX5_isFull 7 = .ok (.if_icmp .lt 7, 3) := by decide +kernel
theorem dX5_isFull_10 : decode cX5_isFull 10 = .ok (.iconst 1, 1) := by decide +kernel
theorem dX5_isFull_11 : decode cX5_isFull 11 = .ok (.goto 4, 3) := by decide +kernel
theorem dX5_isFull_14 : decode cX5_isFull 14 = .ok (.iconst 0, 1) := by decide +kernel
theorem dX5_isFull_15 : decode cX5_isFull 15 = .ok (.ireturn, 1) := by decide +kernel
theorem dX5_add_0 : decode cX5_add 0 = .ok (.aload_n 0, 1) := by decide +kernel
theorem dX5_add_1 : decode cX5_add 1 = .ok (.getfield 19, 3) := by decide +kernel
theorem dX5_add_4 : decode cX5_add 4 = .ok (.ifCond .lt 35, 3) := by decide +kernel
theorem dX5_add_7 : decode cX5_add 7 = .ok (.aload_n 0, 1) := by decide +kernel
theorem dX5_add_8 : decode cX5_add 8 = .ok (.getfield 19, 3) := by decide +kernel
theorem dX5_add_11 : decode cX5_add 11 = .ok (.aload_n 0, 1) := by decide +kernel
theorem dX5_add_12 : decode cX5_add 12 = .ok (.getfield 11, 3) := by decide +kernel
theorem dX5_add_15 : decode cX5_add 15 = .ok (.arraylength, 1) := by decide +kernel
theorem dX5_add_16 : decode cX5_add 16 = .ok (.if_icmp .ge 23, 3) := by decide +kernel
theorem dX5_add_19 : decode cX5_add 19 = .ok (.aload_n 0, 1) := by decide +kernel
theorem dX5_add_20 : decode cX5_add 20 = .ok (.getfield 11, 3) := by decide +kernel
theorem dX5_add_23 : decode cX5_add 23 = .ok (.aload_n 0, 1) := by decide +kernel
theorem dX5_add_24 : decode cX5_add 24 = .ok (.getfield 19, 3) := by decide +kernel
theorem dX5_add_27 : decode cX5_add 27 = .ok (.iload_n 1, 1) := by decide +kernel
theorem dX5_add_28 : decode cX5_add 28 = .ok (.castore, 1) := by decide +kernel
theorem dX5_add_29 : decode cX5_add 29 = .ok (.aload_n 0, 1) := by decide +kernel
theorem dX5_add_30 : decode cX5_add 30 = .ok (.dup, 1) := by decide +kernel
theorem dX5_add_31 : decode cX5_add 31 = .ok (.getfield 19, 3) := by decide +kernel
theorem dX5_add_34 : decode cX5_add 34 = .ok (.iconst 1, 1) := by decide +kernel
theorem dX5_add_35 : decode cX5_add 35 = .ok (.iadd, 1) := by decide +kernel
theorem dX5_add_36 : decode cX5_add 36 = .ok (.putfield 19, 3) := by decide +kernel
theorem dX5_add_39 : decode cX5_add 39 = .ok (.return_, 1) := by decide +kernel
theorem dX5_become_0 : decode cX5_become 0 = .ok (.aload_n 0, 1) := by decide +kernel
theorem dX5_become_1 : decode cX5_become 1 = .ok (.iconst 0, 1) := by decide +kernel
theorem dX5_become_2 : decode cX5_become 2 = .ok (.putfield 19, 3) := by decide +kernel
theorem dX5_become_5 : decode cX5_become 5 = .ok (.iconst 0, 1) := by decide +kernel
theorem dX5_become_6 : decode cX5_become 6 = .ok (.istore_n 2, 1) := by decide +kernel
theorem dX5_become_7 : decode cX5_become 7 = .ok (.iload_n 2, 1) := by decide +kernel
theorem dX5_become_8 : decode cX5_become 8 = .ok (.aload_n 1, 1) := by decide +kernel
theorem dX5_become_9 : decode cX5_become 9 = .ok (.invokevirtual 23, 3) := by decide +kernel
theorem dX5_become_12 : decode cX5_become 12 = .ok (.if_icmp .ge 18, 3) := by decide +kernel
theorem dX5_become_15 : decode cX5_become 15 = .ok (.aload_n 0, 1) := by decide +kernel
theorem dX5_become_16 : decode cX5_become 16 = .ok (.aload_n 1, 1) := by decide +kernel
theorem dX5_become_17 : decode cX5_become 17 = .ok (.iload_n 2, 1) := by decide +kernel
theorem dX5_become_18 : decode cX5_become 18 = .ok (.invokevirtual 28, 3) := by decide +kernel
theorem dX5_become_21 : decode cX5_become 21 = .ok (.invokevirtual 32, 3) := by decide +kernel
theorem dX5_become_24 : decode cX5_become 24 = .ok (.iinc 2 1, 3) := by decide +kernel
theorem dX5_become_27 : decode cX5_become 27 = .ok (.goto (-20), 3) := by decide +kernel
theorem dX5_become_30 : decode cX5_become 30 = .ok (.return_, 1) := by decide +kernel
theorem dX5_letter_0 : decode cX5_letter 0 = .ok (.iload_n 1, 1) := by decide +kernel
theorem dX5_letter_1 : decode cX5_letter 1 = .ok (.ifCond .lt 29, 3) := by decide +kernel
theorem dX5_letter_4 : decode cX5_letter 4 = .ok (.iload_n 1, 1) := by decide +kernel
theorem dX5_letter_5 : decode cX5_letter 5 = .ok (.aload_n 0, 1) := by decide +kernel
theorem dX5_letter_6 : decode cX5_letter 6 = .ok (.getfield 19, 3) := by decide +kernel
theorem dX5_letter_9 : decode cX5_letter 9 = .ok (.if_icmp .ge 21, 3) := by decide +kernel
theorem dX5_letter_12 : decode cX5_letter 12 = .ok (.iload_n 1, 1) := by decide +kernel
theorem dX5_letter_13 : decode cX5_letter 13 = .ok (.aload_n 0, 1) := by decide +kernel
theorem dX5_letter_14 : decode cX5_letter 14 = .ok (.getfield 11, 3) := by decide +kernel
theorem dX5_letter_17 : decode cX5_letter 17 = .ok (.arraylength, 1) := by decide +kernel
theorem dX5_letter_18 : decode cX5_letter 18 = .ok (.if_icmp .ge 12, 3) := by decide +kernel
theorem dX5_letter_21 : decode cX5_letter 21 = .ok (.aload_n 0, 1) := by decide +kernel
theorem dX5_letter_22 : decode cX5_letter 22 = .ok (.getfield 11, 3) := by decide +kernel
theorem dX5_letter_25 : decode cX5_letter 25 = .ok (.iload_n 1, 1) := by decide +kernel
theorem dX5_letter_26 : decode cX5_letter 26 = .ok (.caload, 1) := by decide +kernel
theorem dX5_letter_27 : decode cX5_letter 27 = .ok (.goto 4, 3) := by decide +kernel
theorem dX5_letter_30 : decode cX5_letter 30 = .ok (.iconst 0, 1) := by decide +kernel
theorem dX5_letter_31 : decode cX5_letter 31 = .ok (.ireturn, 1) := by decide +kernel
theorem dX5_number_0 : decode cX5_number 0 = .ok (.iload_n 1, 1) := by decide +kernel
theorem dX5_number_1 : decode cX5_number 1 = .ok (.ifCond .lt 21, 3) := by decide +kernel
theorem dX5_number_4 : decode cX5_number 4 = .ok (.iload_n 1, 1) := by decide +kernel
theorem dX5_number_5 : decode cX5_number 5 = .ok (.aload_n 0, 1) := by decide +kernel
theorem dX5_number_6 : decode cX5_number 6 = .ok (.getfield 15, 3) := by decide +kernel
theorem dX5_number_9 : decode cX5_number 9 = .ok (.arraylength, 1) := by decide +kernel
theorem dX5_number_10 : decode cX5_number 10 = .ok (.if_icmp .ge 12, 3) := by decide +kernel
theorem dX5_number_13 : decode cX5_number 13 = .ok (.aload_n 0, 1) := by decide +kernel
theorem dX5_number_14 : decode cX5_number 14 = .ok (.getfield 15, 3) := by decide +kernel
theorem dX5_number_17 : decode cX5_number 17 = .ok (.iload_n 1, 1) := by decide +kernel
theorem dX5_number_18 : decode cX5_number 18 = .ok (.iaload, 1) := by decide +kernel
theorem dX5_number_19 : decode cX5_number 19 = .ok (.goto 4, 3) := by decide +kernel
theorem dX5_number_22 : decode cX5_number 22 = .ok (.iconst 0, 1) := by decide +kernel
theorem dX5_number_23 : decode cX5_number 23 = .ok (.ireturn, 1) := by decide +kernel
theorem dX5_firstFault_0 : decode cX5_firstFault 0 = .ok (.iconst 0, 1) := by decide +kernel
theorem dX5_firstFault_1 : decode cX5_firstFault 1 = .ok (.istore_n 1, 1) := by decide +kernel
theorem dX5_firstFault_2 : decode cX5_firstFault 2 = .ok (.iconst 0, 1) := by decide +kernel
theorem dX5_firstFault_3 : decode cX5_firstFault 3 = .ok (.istore_n 2, 1) := by decide +kernel
theorem dX5_firstFault_4 : decode cX5_firstFault 4 = .ok (.iconst 0, 1) := by decide +kernel
theorem dX5_firstFault_5 : decode cX5_firstFault 5 = .ok (.istore_n 3, 1) := by decide +kernel
theorem dX5_firstFault_6 : decode cX5_firstFault 6 = .ok (.iconst 0, 1) := by decide +kernel
theorem dX5_firstFault_7 : decode cX5_firstFault 7 = .ok (.istore 4, 2) := by decide +kernel
theorem dX5_firstFault_9 : decode cX5_firstFault 9 = .ok (.iload 4, 2) := by decide +kernel
theorem dX5_firstFault_11 : decode cX5_firstFault 11 = .ok (.sipush 200, 3) := by decide +kernel
theorem dX5_firstFault_14 : decode cX5_firstFault 14 = .ok (.if_icmp .ge 74, 3) := by decide +kernel
theorem dX5_firstFault_17 : decode cX5_firstFault 17 = .ok (.iload_n 3, 1) := by decide +kernel
theorem dX5_firstFault_18 : decode cX5_firstFault 18 = .ok (.aload_n 0, 1) := by decide +kernel
theorem dX5_firstFault_19 : decode cX5_firstFault 19 = .ok (.getfield 19, 3) := by decide +kernel
theorem dX5_firstFault_22 : decode cX5_firstFault 22 = .ok (.if_icmp .ge 66, 3) := by decide +kernel
theorem dX5_firstFault_25 : decode cX5_firstFault 25 = .ok (.aload_n 0, 1) := by decide +kernel
theorem dX5_firstFault_26 : decode cX5_firstFault 26 = .ok (.iload_n 3, 1) := by decide +kernel
theorem dX5_firstFault_27 : decode cX5_firstFault 27 = .ok (.invokevirtual 36, 3) := by decide +kernel
