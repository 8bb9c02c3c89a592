theorem dX5_firstFault_30 : decode cX5_firstFault 30 = .ok (.istore 5, 2) := by decide +kernel
theorem dX5_firstFault_32 : decode cX5_firstFault 32 = .ok (.aload_n 0, 1) := by decide +kernel
theorem dX5_firstFault_33 : decode cX5_firstFault 33 = .ok (.iload_n 3, 1) := by decide +kernel
theorem dX5_firstFault_34 : decode cX5_firstFault 34 = .ok (.invokevirtual 40, 3) := by decide +kernel
theorem dX5_firstFault_37 : decode cX5_firstFault 37 = .ok (.bipush 98, 2) := by decide +kernel
theorem dX5_firstFault_39 : decode cX5_firstFault 39 = .ok (.if_icmp .ne 9, 3) := by decide +kernel
theorem dX5_firstFault_42 : decode cX5_firstFault 42 = .ok (.iinc 1 1, 3) := by decide +kernel
theorem dX5_firstFault_45 : decode cX5_firstFault 45 = .ok (.goto 16, 3) := by decide +kernel
theorem dX5_firstFault_48 : decode cX5_firstFault 48 = .ok (.aload_n 0, 1) := by decide +kernel
theorem dX5_firstFault_49 : decode cX5_firstFault 49 = .ok (.iload_n 3, 1) := by decide +kernel
theorem dX5_firstFault_50 : decode cX5_firstFault 50 = .ok (.invokevirtual 40, 3) := by decide +kernel
theorem dX5_firstFault_53 : decode cX5_firstFault 53 = .ok (.bipush 116, 2) := by decide +kernel
theorem dX5_firstFault_55 : decode cX5_firstFault 55 = .ok (.if_icmp .ne 6, 3) := by decide +kernel
theorem dX5_firstFault_58 : decode cX5_firstFault 58 = .ok (.iinc 2 1, 3) := by decide +kernel
theorem dX5_firstFault_61 : decode cX5_firstFault 61 = .ok (.iload 5, 2) := by decide +kernel
theorem dX5_firstFault_63 : decode cX5_firstFault 63 = .ok (.ifCond .lt 14, 3) := by decide +kernel
theorem dX5_firstFault_66 : decode cX5_firstFault 66 = .ok (.iload_n 1, 1) := by decide +kernel
theorem dX5_firstFault_67 : decode cX5_firstFault 67 = .ok (.bipush 8, 2) := by decide +kernel
theorem dX5_firstFault_69 : decode cX5_firstFault 69 = .ok (.if_icmp .gt 8, 3) := by decide +kernel
theorem dX5_firstFault_72 : decode cX5_firstFault 72 = .ok (.iload_n 2, 1) := by decide +kernel
theorem dX5_firstFault_73 : decode cX5_firstFault 73 = .ok (.iconst 4, 1) := by decide +kernel
theorem dX5_firstFault_74 : decode cX5_firstFault 74 = .ok (.if_icmp .le 5, 3) := by decide +kernel
theorem dX5_firstFault_77 : decode cX5_firstFault 77 = .ok (.iload_n 3, 1) := by decide +kernel
theorem dX5_firstFault_78 : decode cX5_firstFault 78 = .ok (.ireturn, 1) := by decide +kernel
theorem dX5_firstFault_79 : decode cX5_firstFault 79 = .ok (.iload 5, 2) := by decide +kernel
theorem dX5_firstFault_81 : decode cX5_firstFault 81 = .ok (.istore_n 3, 1) := by decide +kernel
theorem dX5_firstFault_82 : decode cX5_firstFault 82 = .ok (.iinc 4 1, 3) := by decide +kernel
theorem dX5_firstFault_85 : decode cX5_firstFault 85 = .ok (.goto (-76), 3) := by decide +kernel
theorem dX5_firstFault_88 : decode cX5_firstFault 88 = .ok (.bipush (-4), 2) := by decide +kernel
theorem dX5_firstFault_90 : decode cX5_firstFault 90 = .ok (.ireturn, 1) := by decide +kernel
theorem dX5_canBeLaid_0 : decode cX5_canBeLaid 0 = .ok (.aload_n 0, 1) := by decide +kernel
theorem dX5_canBeLaid_1 : decode cX5_canBeLaid 1 = .ok (.invokevirtual 43, 3) := by decide +kernel
theorem dX5_canBeLaid_4 : decode cX5_canBeLaid 4 = .ok (.bipush (-4), 2) := by decide +kernel
theorem dX5_canBeLaid_6 : decode cX5_canBeLaid 6 = .ok (.if_icmp .ne 25, 3) := by decide +kernel
theorem dX5_canBeLaid_9 : decode cX5_canBeLaid 9 = .ok (.aload_n 0, 1) := by decide +kernel
theorem dX5_canBeLaid_10 : decode cX5_canBeLaid 10 = .ok (.bipush 98, 2) := by decide +kernel
theorem dX5_canBeLaid_12 : decode cX5_canBeLaid 12 = .ok (.invokevirtual 46, 3) := by decide +kernel
theorem dX5_canBeLaid_15 : decode cX5_canBeLaid 15 = .ok (.ifCond .eq 16, 3) := by decide +kernel
theorem dX5_canBeLaid_18 : decode cX5_canBeLaid 18 = .ok (.aload_n 0, 1) := by decide +kernel
theorem dX5_canBeLaid_19 : decode cX5_canBeLaid 19 = .ok (.bipush 116, 2) := by decide +kernel
theorem dX5_canBeLaid_21 : decode cX5_canBeLaid 21 = .ok (.invokevirtual 46, 3) := by decide +kernel
theorem dX5_canBeLaid_24 : decode cX5_canBeLaid 24 = .ok (.ifCond .eq 7, 3) := by decide +kernel
theorem dX5_canBeLaid_27 : decode cX5_canBeLaid 27 = .ok (.iconst 1, 1) := by decide +kernel
theorem dX5_canBeLaid_28 : decode cX5_canBeLaid 28 = .ok (.goto 4, 3) := by decide +kernel
theorem dX5_canBeLaid_31 : decode cX5_canBeLaid 31 = .ok (.iconst 0, 1) := by decide +kernel
theorem dX5_canBeLaid_32 : decode cX5_canBeLaid 32 = .ok (.ireturn, 1) := by decide +kernel
theorem dX5_has_0 : decode cX5_has 0 = .ok (.iconst 0, 1) := by decide +kernel
theorem dX5_has_1 : decode cX5_has 1 = .ok (.istore_n 2, 1) := by decide +kernel
theorem dX5_has_2 : decode cX5_has 2 = .ok (.iload_n 2, 1) := by decide +kernel
theorem dX5_has_3 : decode cX5_has 3 = .ok (.aload_n 0, 1) := by decide +kernel
theorem dX5_has_4 : decode cX5_has 4 = .ok (.getfield 19, 3) := by decide +kernel
theorem dX5_has_7 : decode cX5_has 7 = .ok (.if_icmp .ge 20, 3) := by decide +kernel
theorem dX5_has_10 : decode cX5_has 10 = .ok (.aload_n 0, 1) := by decide +kernel
theorem dX5_has_11 : decode cX5_has 11 = .ok (.iload_n 2, 1) := by decide +kernel
theorem dX5_has_12 : decode cX5_has 12 = .ok (.invokevirtual 40, 3) := by decide +kernel
theorem dX5_has_15 : decode cX5_has 15 = .ok (.iload_n 1, 1) := by decide +kernel
theorem dX5_has_16 : decode cX5_has 16 = .ok (.if_icmp .ne 5, 3) := by decide +kernel
theorem dX5_has_19 : decode cX5_has 19 = .ok (.iconst 1, 1) := by decide +kernel
theorem dX5_has_20 : decode cX5_has 20 = .ok (.ireturn, 1) := by decide +kernel
theorem dX5_has_21 : decode cX5_has 21 = .ok (.iinc 2 1, 3) := by decide +kernel
theorem dX5_has_24 : decode cX5_has 24 = .ok (.goto (-22), 3) := by decide +kernel
theorem dX5_has_27 : decode cX5_has 27 = .ok (.iconst 0, 1) := by decide +kernel
theorem dX5_has_28 : decode cX5_has 28 = .ok (.ireturn, 1) := by decide +kernel
theorem dX5_readItem_0 : decode cX5_readItem 0 = .ok (.aload_n 0, 1) := by decide +kernel
theorem dX5_readItem_1 : decode cX5_readItem 1 = .ok (.iload_n 1, 1) := by decide +kernel
theorem dX5_readItem_2 : decode cX5_readItem 2 = .ok (.invokevirtual 40, 3) := by decide +kernel
theorem dX5_readItem_5 : decode cX5_readItem 5 = .ok (.invokestatic 50, 3) := by decide +kernel
theorem dX5_readItem_8 : decode cX5_readItem 8 = .ok (.istore_n 2, 1) := by decide +kernel
theorem dX5_readItem_9 : decode cX5_readItem 9 = .ok (.aload_n 0, 1) := by decide +kernel
theorem dX5_readItem_10 : decode cX5_readItem 10 = .ok (.iload_n 1, 1) := by decide +kernel
theorem dX5_readItem_11 : decode cX5_readItem 11 = .ok (.invokevirtual 40, 3) := by decide +kernel
theorem dX5_readItem_14 : decode cX5_readItem 14 = .ok (.invokestatic 54, 3) := by decide +kernel
theorem dX5_readItem_17 : decode cX5_readItem 17 = .ok (.istore_n 3, 1) := by decide +kernel
theorem dX5_readItem_18 : decode cX5_readItem 18 = .ok (.iload_n 1, 1) := by decide +kernel
theorem dX5_readItem_19 : decode cX5_readItem 19 = .ok (.iconst 1, 1) := by decide +kernel
theorem dX5_readItem_20 : decode cX5_readItem 20 = .ok (.iadd, 1) := by decide +kernel
theorem dX5_readItem_21 : decode cX5_readItem 21 = .ok (.istore 4, 2) := by decide +kernel
theorem dX5_readItem_23 : decode cX5_readItem 23 = .ok (.iconst 0, 1) := by decide +kernel
theorem dX5_readItem_24 : decode cX5_readItem 24 = .ok (.istore 5, 2) := by decide +kernel
theorem dX5_readItem_26 : decode cX5_readItem 26 = .ok (.iload 5, 2) := by decide +kernel
theorem dX5_readItem_28 : decode cX5_readItem 28 = .ok (.iload_n 3, 1) := by decide +kernel
theorem dX5_readItem_29 : decode cX5_readItem 29 = .ok (.if_icmp .ge 77, 3) := by decide +kernel
theorem dX5_readItem_32 : decode cX5_readItem 32 = .ok (.aload_n 0, 1) := by decide +kernel
theorem dX5_readItem_33 : decode cX5_readItem 33 = .ok (.iload 4, 2) := by decide +kernel
theorem dX5_readItem_35 : decode cX5_readItem 35 = .ok (.invokevirtual 57, 3) := by decide +kernel
theorem dX5_readItem_38 : decode cX5_readItem 38 = .ok (.istore 6, 2) := by decide +kernel
theorem dX5_readItem_40 : decode cX5_readItem 40 = .ok (.iload 6, 2) := by decide +kernel
theorem dX5_readItem_42 : decode cX5_readItem 42 = .ok (.ifCond .eq 20, 3) := by decide +kernel
theorem dX5_readItem_45 : decode cX5_readItem 45 = .ok (.aload_n 0, 1) := by decide +kernel
theorem dX5_readItem_46 : decode cX5_readItem 46 = .ok (.iload 4, 2) := by decide +kernel
theorem dX5_readItem_48 : decode cX5_readItem 48 = .ok (.iload 6, 2) := by decide +kernel
theorem dX5_readItem_50 : decode cX5_readItem 50 = .ok (.iload 5, 2) := by decide +kernel
theorem dX5_readItem_52 : decode cX5_readItem 52 = .ok (.iload_n 2, 1) := by decide +kernel
theorem dX5_readItem_53 : decode cX5_readItem 53 = .ok (.iload 5, 2) := by decide +kernel
theorem dX5_readItem_55 : decode cX5_readItem 55 = .ok (.iadd, 1) := by decide +kernel
theorem dX5_readItem_56 : decode cX5_readItem 56 = .ok (.invokevirtual 60, 3) := by decide +kernel
theorem dX5_readItem_59 : decode cX5_readItem 59 = .ok (.ifCond .ne 5, 3) := by decide +kernel
theorem dX5_readItem_62 : decode cX5_readItem 62 = .ok (.iconst (-1), 1) := by decide +kernel
theorem dX5_readItem_63 : decode cX5_readItem 63 = .ok (.ireturn, 1) := by decide +kernel
theorem dX5_readItem_64 : decode cX5_readItem 64 = .ok (.iload 4, 2) := by decide +kernel
theorem dX5_readItem_66 : decode cX5_readItem 66 = .ok (.iload 6, 2) := by decide +kernel
theorem dX5_readItem_68 : decode cX5_readItem 68 = .ok (.iadd, 1) := by decide +kernel
theorem dX5_readItem_69 : decode cX5_readItem 69 = .ok (.istore 4, 2) := by decide +kernel
theorem dX5_readItem_71 : decode cX5_readItem 71 = .ok (.aload_n 0, 1) := by decide +kernel
theorem dX5_readItem_72 : decode cX5_readItem 72 = .ok (.iload 4, 2) := by decide +kernel
theorem dX5_readItem_74 : decode cX5_readItem 74 = .ok (.invokevirtual 40, 3) := by decide +kernel
theorem dX5_readItem_77 : decode cX5_readItem 77 = .ok (.iload 5, 2) := by decide +kernel
theorem dX5_readItem_79 : decode cX5_readItem 79 = .ok (.iload_n 3, 1) := by decide +kernel
theorem dX5_readItem_80 : decode cX5_readItem 80 = .ok (.iconst 1, 1) := by decide +kernel
theorem dX5_readItem_81 : decode cX5_readItem 81 = .ok (.isub, 1) := by decide +kernel
theorem dX5_readItem_82 : decode cX5_readItem 82 = .ok (.if_icmp .ne 8, 3) := by decide +kernel
theorem dX5_readItem_85 : decode cX5_readItem 85 = .ok (.bipush 59, 2) := by decide +kernel
theorem dX5_readItem_87 : decode cX5_readItem 87 = .ok (.goto 5, 3) := by decide +kernel
theorem dX5_readItem_90 : decode cX5_readItem 90 = .ok (.bipush 44, 2) := by decide +kernel
theorem dX5_readItem_92 : decode cX5_readItem 92 = .ok (.if_icmp .eq 5, 3) := by decide +kernel
theorem dX5_readItem_95 : decode cX5_readItem 95 = .ok (.iconst (-1), 1) := by decide +kernel
theorem dX5_readItem_96 : decode cX5_readItem 96 = .ok (.ireturn, 1) := by decide +kernel
theorem dX5_readItem_97 : decode cX5_readItem 97 = .ok (.iinc 4 1, 3) := by decide +kernel
theorem dX5_readItem_100 : decode cX5_readItem 100 = .ok (.iinc 5 1, 3) := by decide +kernel
theorem dX5_readItem_103 : decode cX5_readItem 103 = .ok (.goto (-77), 3) := by decide +kernel
theorem dX5_readItem_106 : decode cX5_readItem 106 = .ok (.iload_n 3, 1) := by decide +kernel
theorem dX5_readItem_107 : decode cX5_readItem 107 = .ok (.ifCond .ne 7, 3) := by decide +kernel
theorem dX5_readItem_110 : decode cX5_readItem 110 = .ok (.iconst (-1), 1) := by decide +kernel
theorem dX5_readItem_111 : decode cX5_readItem 111 = .ok (.goto 5, 3) := by decide +kernel
theorem dX5_readItem_114 : decode cX5_readItem 114 = .ok (.iload 4, 2) := by decide +kernel
theorem dX5_readItem_116 : decode cX5_readItem 116 = .ok (.ireturn, 1) := by decide +kernel
theorem dX5_readNumber_0 : decode cX5_readNumber 0 = .ok (.aload_n 0, 1) := by decide +kernel
theorem dX5_readNumber_1 : decode cX5_readNumber 1 = .ok (.iload_n 1, 1) := by decide +kernel
theorem dX5_readNumber_2 : decode cX5_readNumber 2 = .ok (.invokevirtual 40, 3) := by decide +kernel
theorem dX5_readNumber_5 : decode cX5_readNumber 5 = .ok (.bipush 48, 2) := by decide +kernel
theorem dX5_readNumber_7 : decode cX5_readNumber 7 = .ok (.isub, 1) := by decide +kernel
theorem dX5_readNumber_8 : decode cX5_readNumber 8 = .ok (.istore 5, 2) := by decide +kernel
theorem dX5_readNumber_10 : decode cX5_readNumber 10 = .ok (.iload_n 2, 1) := by decide +kernel
theorem dX5_readNumber_11 : decode cX5_readNumber 11 = .ok (.iconst 2, 1) := by decide +kernel
theorem dX5_readNumber_12 : decode cX5_readNumber 12 = .ok (.if_icmp .ne 21, 3) := by decide +kernel
theorem dX5_readNumber_15 : decode cX5_readNumber 15 = .ok (.bipush 10, 2) := by decide +kernel
theorem dX5_readNumber_17 : decode cX5_readNumber 17 = .ok (.iload 5, 2) := by decide +kernel
theorem dX5_readNumber_19 : decode cX5_readNumber 19 = .ok (.imul, 1) := by decide +kernel
theorem dX5_readNumber_20 : decode cX5_readNumber 20 = .ok (.aload_n 0, 1) := by decide +kernel
theorem dX5_readNumber_21 : decode cX5_readNumber 21 = .ok (.iload_n 1, 1) := by decide +kernel
theorem dX5_readNumber_22 : decode cX5_readNumber 22 = .ok (.iconst 1, 1) := by decide +kernel
theorem dX5_readNumber_23 : decode cX5_readNumber 23 = .ok (.iadd, 1) := by decide +kernel
theorem dX5_readNumber_24 : decode cX5_readNumber 24 = .ok (.invokevirtual 40, 3) := by decide +kernel
theorem dX5_readNumber_27 : decode cX5_readNumber 27 = .ok (.iadd, 1) := by decide +kernel
theorem dX5_readNumber_28 : decode cX5_readNumber 28 = .ok (.bipush 48, 2) := by decide +kernel
theorem dX5_readNumber_30 : decode cX5_readNumber 30 = .ok (.isub, 1) := by decide +kernel
theorem dX5_readNumber_31 : decode cX5_readNumber 31 = .ok (.istore 5, 2) := by decide +kernel
theorem dX5_readNumber_33 : decode cX5_readNumber 33 = .ok (.iload_n 3, 1) := by decide +kernel
theorem dX5_readNumber_34 : decode cX5_readNumber 34 = .ok (.ifCond .lt 20, 3) := by decide +kernel
theorem dX5_readNumber_37 : decode cX5_readNumber 37 = .ok (.iload_n 3, 1) := by decide +kernel
theorem dX5_readNumber_38 : decode cX5_readNumber 38 = .ok (.aload_n 0, 1) := by decide +kernel
theorem dX5_readNumber_39 : decode cX5_readNumber 39 = .ok (.getfield 15, 3) := by decide +kernel
theorem dX5_readNumber_42 : decode cX5_readNumber 42 = .ok (.arraylength, 1) := by decide +kernel
theorem dX5_readNumber_43 : decode cX5_readNumber 43 = .ok (.if_icmp .ge 11, 3) := by decide +kernel
theorem dX5_readNumber_46 : decode cX5_readNumber 46 = .ok (.aload_n 0, 1) := by decide +kernel
theorem dX5_readNumber_47 : decode cX5_readNumber 47 = .ok (.getfield 15, 3) := by decide +kernel
theorem dX5_readNumber_50 : decode cX5_readNumber 50 = .ok (.iload_n 3, 1) := by decide +kernel
theorem dX5_readNumber_51 : decode cX5_readNumber 51 = .ok (.iload 5, 2) := by decide +kernel
theorem dX5_readNumber_53 : decode cX5_readNumber 53 = .ok (.iastore, 1) := by decide +kernel
theorem dX5_readNumber_54 : decode cX5_readNumber 54 = .ok (.iload 4, 2) := by decide +kernel
theorem dX5_readNumber_56 : decode cX5_readNumber 56 = .ok (.ifCond .lt 45, 3) := by decide +kernel
theorem dX5_readNumber_59 : decode cX5_readNumber 59 = .ok (.iload 4, 2) := by decide +kernel
theorem dX5_readNumber_61 : decode cX5_readNumber 61 = .ok (.getstatic 64, 3) := by decide +kernel
theorem dX5_readNumber_64 : decode cX5_readNumber 64 = .ok (.arraylength, 1) := by decide +kernel
theorem dX5_readNumber_65 : decode cX5_readNumber 65 = .ok (.if_icmp .ge 36, 3) := by decide +kernel
theorem dX5_readNumber_68 : decode cX5_readNumber 68 = .ok (.iload 4, 2) := by decide +kernel
theorem dX5_readNumber_70 : decode cX5_readNumber 70 = .ok (.getstatic 67, 3) := by decide +kernel
theorem dX5_readNumber_73 : decode cX5_readNumber 73 = .ok (.arraylength, 1) := by decide +kernel
theorem dX5_readNumber_74 : decode cX5_readNumber 74 = .ok (.if_icmp .ge 27, 3) := by decide +kernel
theorem dX5_readNumber_77 : decode cX5_readNumber 77 = .ok (.iload 5, 2) := by decide +kernel
theorem dX5_readNumber_79 : decode cX5_readNumber 79 = .ok (.getstatic 64, 3) := by decide +kernel
theorem dX5_readNumber_82 : decode cX5_readNumber 82 = .ok (.iload 4, 2) := by decide +kernel
theorem dX5_readNumber_84 : decode cX5_readNumber 84 = .ok (.iaload, 1) := by decide +kernel
theorem dX5_readNumber_85 : decode cX5_readNumber 85 = .ok (.getstatic 67, 3) := by decide +kernel
theorem dX5_readNumber_88 : decode cX5_readNumber 88 = .ok (.iload 4, 2) := by decide +kernel
theorem dX5_readNumber_90 : decode cX5_readNumber 90 = .ok (.iaload, 1) := by decide +kernel
theorem dX5_readNumber_91 : decode cX5_readNumber 91 = .ok (.invokestatic 70, 3) := by decide +kernel
theorem dX5_readNumber_94 : decode cX5_readNumber 94 = .ok (.ifCond .eq 7, 3) := by decide +kernel
theorem dX5_readNumber_97 : decode cX5_readNumber 97 = .ok (.iconst 1, 1) := by decide +kernel
theorem dX5_readNumber_98 : decode cX5_readNumber 98 = .ok (.goto 4, 3) := by decide +kernel
theorem dX5_readNumber_101 : decode cX5_readNumber 101 = .ok (.iconst 0, 1) := by decide +kernel
theorem dX5_readNumber_102 : decode cX5_readNumber 102 = .ok (.ireturn, 1) := by decide +kernel
theorem dX5_figuresAt_0 : decode cX5_figuresAt 0 = .ok (.aload_n 0, 1) := by decide +kernel
theorem dX5_figuresAt_1 : decode cX5_figuresAt 1 = .ok (.iload_n 1, 1) := by decide +kernel
theorem dX5_figuresAt_2 : decode cX5_figuresAt 2 = .ok (.invokevirtual 40, 3) := by decide +kernel
theorem dX5_figuresAt_5 : decode cX5_figuresAt 5 = .ok (.invokestatic 74, 3) := by decide +kernel
theorem dX5_figuresAt_8 : decode cX5_figuresAt 8 = .ok (.ifCond .ne 5, 3) := by decide +kernel
theorem dX5_figuresAt_11 : decode cX5_figuresAt 11 = .ok (.iconst 0, 1) := by decide +kernel
theorem dX5_figuresAt_12 : decode cX5_figuresAt 12 = .ok (.ireturn, 1) := by decide +kernel
theorem dX5_figuresAt_13 : decode cX5_figuresAt 13 = .ok (.aload_n 0, 1) := by decide +kernel
theorem dX5_figuresAt_14 : decode cX5_figuresAt 14 = .ok (.iload_n 1, 1) := by decide +kernel
theorem dX5_figuresAt_15 : decode cX5_figuresAt 15 = .ok (.iconst 1, 1) := by decide +kernel
theorem dX5_figuresAt_16 : decode cX5_figuresAt 16 = .ok (.iadd, 1) := by decide +kernel
theorem dX5_figuresAt_17 : decode cX5_figuresAt 17 = .ok (.invokevirtual 40, 3) := by decide +kernel
theorem dX5_figuresAt_20 : decode cX5_figuresAt 20 = .ok (.invokestatic 74, 3) := by decide +kernel
theorem dX5_figuresAt_23 : decode cX5_figuresAt 23 = .ok (.ifCond .eq 7, 3) := by decide +kernel
theorem dX5_figuresAt_26 : decode cX5_figuresAt 26 = .ok (.iconst 2, 1) := by decide +kernel
theorem dX5_figuresAt_27 : decode cX5_figuresAt 27 = .ok (.goto 4, 3) := by decide +kernel
theorem dX5_figuresAt_30 : decode cX5_figuresAt 30 = .ok (.iconst 1, 1) := by decide +kernel
theorem dX5_figuresAt_31 : decode cX5_figuresAt 31 = .ok (.ireturn, 1) := by decide +kernel
theorem dX5_isFigure_0 : decode cX5_isFigure 0 = .ok (.iload_n 0, 1) := by decide +kernel
theorem dX5_isFigure_1 : decode cX5_isFigure 1 = .ok (.bipush 48, 2) := by decide +kernel
theorem dX5_isFigure_3 : decode cX5_isFigure 3 = .ok (.if_icmp .lt 13, 3) := by decide +kernel
theorem dX5_isFigure_6 : decode cX5_isFigure 6 = .ok (.iload_n 0, 1) := by decide +kernel
theorem dX5_isFigure_7 : decode cX5_isFigure 7 = .ok (.bipush 57, 2) := by decide +kernel
theorem dX5_isFigure_9 : decode cX5_isFigure 9 = .ok (.if_icmp .gt 7, 3) := by decide +kernel
theorem dX5_isFigure_12 : decode cX5_isFigure 12 = .ok (.iconst 1, 1) := by decide +kernel
theorem dX5_isFigure_13 : decode cX5_isFigure 13 = .ok (.goto 4, 3) := by decide +kernel
theorem dX5_isFigure_16 : decode cX5_isFigure 16 = .ok (.iconst 0, 1) := by decide +kernel
theorem dX5_isFigure_17 : decode cX5_isFigure 17 = .ok (.ireturn, 1) := by decide +kernel
theorem dX5_howManyNumbers_0 : decode cX5_howManyNumbers 0 = .ok (.iload_n 0, 1) := by decide +kernel
theorem dX5_howManyNumbers_1 : decode cX5_howManyNumbers 1 = .ok (.lookupswitch 51 #[(98, 43), (102, 49), (107, 47), (116, 45)], 43) := by decide +kernel
theorem dX5_howManyNumbers_44 : decode cX5_howManyNumbers 44 = .ok (.iconst 4, 1) := by decide +kernel
theorem dX5_howManyNumbers_45 : decode cX5_howManyNumbers 45 = .ok (.ireturn, 1) := by decide +kernel
theorem dX5_howManyNumbers_46 : decode cX5_howManyNumbers 46 = .ok (.iconst 3, 1) := by decide +kernel
theorem dX5_howManyNumbers_47 : decode cX5_howManyNumbers 47 = .ok (.ireturn, 1) := by decide +kernel
theorem dX5_howManyNumbers_48 : decode cX5_howManyNumbers 48 = .ok (.iconst 2, 1) := by decide +kernel
theorem dX5_howManyNumbers_49 : decode cX5_howManyNumbers 49 = .ok (.ireturn, 1) := by decide +kernel
theorem dX5_howManyNumbers_50 : decode cX5_howManyNumbers 50 = .ok (.iconst 1, 1) := by decide +kernel
theorem dX5_howManyNumbers_51 : decode cX5_howManyNumbers 51 = .ok (.ireturn, 1) := by decide +kernel
theorem dX5_howManyNumbers_52 : decode cX5_howManyNumbers 52 = .ok (.iconst 0, 1) := by decide +kernel
theorem dX5_howManyNumbers_53 : decode cX5_howManyNumbers 53 = .ok (.ireturn, 1) := by decide +kernel
theorem dX5_firstLimit_0 : decode cX5_firstLimit 0 = .ok (.iload_n 0, 1) := by decide +kernel
theorem dX5_firstLimit_1 : decode cX5_firstLimit 1 = .ok (.lookupswitch 43 #[(102, 40), (107, 37), (116, 35)], 35) := by decide +kernel
theorem dX5_firstLimit_36 : decode cX5_firstLimit 36 = .ok (.iconst 4, 1) := by decide +kernel
theorem dX5_firstLimit_37 : decode cX5_firstLimit 37 = .ok (.ireturn, 1) := by decide +kernel
theorem dX5_firstLimit_38 : decode cX5_firstLimit 38 = .ok (.bipush 7, 2) := by decide +kernel
theorem dX5_firstLimit_40 : decode cX5_firstLimit 40 = .ok (.ireturn, 1) := by decide +kernel
theorem dX5_firstLimit_41 : decode cX5_firstLimit 41 = .ok (.bipush 9, 2) := by decide +kernel
theorem dX5_firstLimit_43 : decode cX5_firstLimit 43 = .ok (.ireturn, 1) := by decide +kernel
theorem dX5_firstLimit_44 : decode cX5_firstLimit 44 = .ok (.iconst 0, 1) := by decide +kernel
theorem dX5_firstLimit_45 : decode cX5_firstLimit 45 = .ok (.ireturn, 1) := by decide +kernel
theorem dX6_init_0 : decode cX6_init 0 = .ok (.aload_n 0, 1) := by decide +kernel
theorem dX6_init_1 : decode cX6_init 1 = .ok (.invokespecial 1, 3) := by decide +kernel
theorem dX6_init_4 : decode cX6_init 4 = .ok (.aload_n 0, 1) := by decide +kernel
theorem dX6_init_5 : decode cX6_init 5 = .ok (.new 7, 3) := by decide +kernel
theorem dX6_init_8 : decode cX6_init 8 = .ok (.dup, 1) := by decide +kernel
theorem dX6_init_9 : decode cX6_init 9 = .ok (.invokespecial 9, 3) := by decide +kernel
theorem dX6_init_12 : decode cX6_init 12 = .ok (.putfield 10, 3) := by decide +kernel
theorem dX6_init_15 : decode cX6_init 15 = .ok (.aload_n 0, 1) := by decide +kernel
theorem dX6_init_16 : decode cX6_init 16 = .ok (.new 16, 3) := by decide +kernel
theorem dX6_init_19 : decode cX6_init 19 = .ok (.dup, 1) := by decide +kernel
theorem dX6_init_20 : decode cX6_init 20 = .ok (.invokespecial 18, 3) := by decide +kernel
theorem dX6_init_23 : decode cX6_init 23 = .ok (.putfield 19, 3) := by decide +kernel
theorem dX6_init_26 : decode cX6_init 26 = .ok (.aload_n 0, 1) := by decide +kernel
theorem dX6_init_27 : decode cX6_init 27 = .ok (.new 23, 3) := by decide +kernel
theorem dX6_init_30 : decode cX6_init 30 = .ok (.dup, 1) := by decide +kernel
theorem dX6_init_31 : decode cX6_init 31 = .ok (.invokespecial 25, 3) := by decide +kernel
theorem dX6_init_34 : decode cX6_init 34 = .ok (.putfield 26, 3) := by decide +kernel
theorem dX6_init_37 : decode cX6_init 37 = .ok (.aload_n 0, 1) := by decide +kernel
theorem dX6_init_38 : decode cX6_init 38 = .ok (.new 30, 3) := by decide +kernel
theorem dX6_init_41 : decode cX6_init 41 = .ok (.dup, 1) := by decide +kernel
theorem dX6_init_42 : decode cX6_init 42 = .ok (.bipush 8, 2) := by decide +kernel
theorem dX6_init_44 : decode cX6_init 44 = .ok (.invokespecial 32, 3) := by decide +kernel
theorem dX6_init_47 : decode cX6_init 47 = .ok (.putfield 35, 3) := by decide +kernel
theorem dX6_init_50 : decode cX6_init 50 = .ok (.aload_n 0, 1) := by decide +kernel
theorem dX6_init_51 : decode cX6_init 51 = .ok (.new 30, 3) := by decide +kernel
theorem dX6_init_54 : decode cX6_init 54 = .ok (.dup, 1) := by decide +kernel
theorem dX6_init_55 : decode cX6_init 55 = .ok (.iconst 2, 1) := by decide +kernel
theorem dX6_init_56 : decode cX6_init 56 = .ok (.invokespecial 32, 3) := by decide +kernel
theorem dX6_init_59 : decode cX6_init 59 = .ok (.putfield 39, 3) := by decide +kernel
theorem dX6_init_62 : decode cX6_init 62 = .ok (.aload_n 0, 1) := by decide +kernel
theorem dX6_init_63 : decode cX6_init 63 = .ok (.new 42, 3) := by decide +kernel
theorem dX6_init_66 : decode cX6_init 66 = .ok (.dup, 1) := by decide +kernel
theorem dX6_init_67 : decode cX6_init 67 = .ok (.aload_n 0, 1) := by decide +kernel
theorem dX6_init_68 : decode cX6_init 68 = .ok (.getfield 19, 3) := by decide +kernel
theorem dX6_init_71 : decode cX6_init 71 = .ok (.invokespecial 44, 3) := by decide +kernel
theorem dX6_init_74 : decode cX6_init 74 = .ok (.putfield 47, 3) := by decide +kernel
theorem dX6_init_77 : decode cX6_init 77 = .ok (.aload_n 0, 1) := by decide +kernel
theorem dX6_init_78 : decode cX6_init 78 = .ok (.new 51, 3) := by decide +kernel
theorem dX6_init_81 : decode cX6_init 81 = .ok (.dup, 1) := by decide +kernel
theorem dX6_init_82 : decode cX6_init 82 = .ok (.aload_n 0, 1) := by decide +kernel
theorem dX6_init_83 : decode cX6_init 83 = .ok (.getfield 19, 3) := by decide +kernel
theorem dX6_init_86 : decode cX6_init 86 = .ok (.invokespecial 53, 3) := by decide +kernel
theorem dX6_init_89 : decode cX6_init 89 = .ok (.putfield 54, 3) := by decide +kernel
theorem dX6_init_92 : decode cX6_init 92 = .ok (.aload_n 0, 1) := by decide +kernel
theorem dX6_init_93 : decode cX6_init 93 = .ok (.getfield 10, 3) := by decide +kernel
theorem dX6_init_96 : decode cX6_init 96 = .ok (.ldc 58, 2) := by decide +kernel
theorem dX6_init_98 : decode cX6_init 98 = .ok (.invokevirtual 60, 3) := by decide +kernel
theorem dX6_init_101 : decode cX6_init 101 = .ok (.aload_n 0, 1) := by decide +kernel
theorem dX6_init_102 : decode cX6_init 102 = .ok (.getfield 19, 3) := by decide +kernel
theorem dX6_init_105 : decode cX6_init 105 = .ok (.aload_n 0, 1) := by decide +kernel
theorem dX6_init_106 : decode cX6_init 106 = .ok (.getfield 10, 3) := by decide +kernel
theorem dX6_init_109 : decode cX6_init 109 = .ok (.aload_n 0, 1) := by decide +kernel
theorem dX6_init_110 : decode cX6_init 110 = .ok (.getfield 26, 3) := by decide +kernel
theorem dX6_init_113 : decode cX6_init 113 = .ok (.invokevirtual 64, 3) := by decide +kernel
theorem dX6_init_116 : decode cX6_init 116 = .ok (.aload_n 0, 1) := by decide +kernel
theorem dX6_init_117 : decode cX6_init 117 = .ok (.getfield 10, 3) := by decide +kernel
theorem dX6_init_120 : decode cX6_init 120 = .ok (.iconst 0, 1) := by decide +kernel
theorem dX6_init_121 : decode cX6_init 121 = .ok (.putfield 68, 3) := by decide +kernel
theorem dX6_init_124 : decode cX6_init 124 = .ok (.return_, 1) := by decide +kernel
theorem dX6_write_0 : decode cX6_write 0 = .ok (.iload_n 1, 1) := by decide +kernel
theorem dX6_write_1 : decode cX6_write 1 = .ok (.bipush 32, 2) := by decide +kernel
theorem dX6_write_3 : decode cX6_write 3 = .ok (.bipush 126, 2) := by decide +kernel
theorem dX6_write_5 : decode cX6_write 5 = .ok (.invokestatic 72, 3) := by decide +kernel
theorem dX6_write_8 : decode cX6_write 8 = .ok (.ifCond .ne 5, 3) := by decide +kernel
theorem dX6_write_11 : decode cX6_write 11 = .ok (.iconst (-1), 1) := by decide +kernel
theorem dX6_write_12 : decode cX6_write 12 = .ok (.ireturn, 1) := by decide +kernel
theorem dX6_write_13 : decode cX6_write 13 = .ok (.aload_n 0, 1) := by decide +kernel
theorem dX6_write_14 : decode cX6_write 14 = .ok (.getfield 10, 3) := by decide +kernel
theorem dX6_write_17 : decode cX6_write 17 = .ok (.invokevirtual 76, 3) := by decide +kernel
theorem dX6_write_20 : decode cX6_write 20 = .ok (.ifCond .eq 6, 3) := by decide +kernel
theorem dX6_write_23 : decode cX6_write 23 = .ok (.bipush (-3), 2) := by decide +kernel
theorem dX6_write_25 : decode cX6_write 25 = .ok (.ireturn, 1) := by decide +kernel
theorem dX6_write_26 : decode cX6_write 26 = .ok (.aload_n 0, 1) := by decide +kernel
theorem dX6_write_27 : decode cX6_write 27 = .ok (.getfield 10, 3) := by decide +kernel
theorem dX6_write_30 : decode cX6_write 30 = .ok (.iload_n 1, 1) := by decide +kernel
theorem dX6_write_31 : decode cX6_write 31 = .ok (.i2c, 1) := by decide +kernel
theorem dX6_write_32 : decode cX6_write 32 = .ok (.invokevirtual 80, 3) := by decide +kernel
theorem dX6_write_35 : decode cX6_write 35 = .ok (.aload_n 0, 1) := by decide +kernel
theorem dX6_write_36 : decode cX6_write 36 = .ok (.getfield 10, 3) := by decide +kernel
theorem dX6_write_39 : decode cX6_write 39 = .ok (.getfield 68, 3) := by decide +kernel
theorem dX6_write_42 : decode cX6_write 42 = .ok (.ireturn, 1) := by decide +kernel
theorem dX6_wipe_0 : decode cX6_wipe 0 = .ok (.aload_n 0, 1) := by decide +kernel
theorem dX6_wipe_1 : decode cX6_wipe 1 = .ok (.getfield 10, 3) := by decide +kernel
theorem dX6_wipe_4 : decode cX6_wipe 4 = .ok (.getfield 68, 3) := by decide +kernel
theorem dX6_wipe_7 : decode cX6_wipe 7 = .ok (.istore_n 1, 1) := by decide +kernel
theorem dX6_wipe_8 : decode cX6_wipe 8 = .ok (.aload_n 0, 1) := by decide +kernel
theorem dX6_wipe_9 : decode cX6_wipe 9 = .ok (.getfield 10, 3) := by decide +kernel
theorem dX6_wipe_12 : decode cX6_wipe 12 = .ok (.iconst 0, 1) := by decide +kernel
theorem dX6_wipe_13 : decode cX6_wipe 13 = .ok (.putfield 68, 3) := by decide +kernel
theorem dX6_wipe_16 : decode cX6_wipe 16 = .ok (.iload_n 1, 1) := by decide +kernel
theorem dX6_wipe_17 : decode cX6_wipe 17 = .ok (.ireturn, 1) := by decide +kernel
theorem dX6_fault_0 : decode cX6_fault 0 = .ok (.aload_n 0, 1) := by decide +kernel
theorem dX6_fault_1 : decode cX6_fault 1 = .ok (.getfield 10, 3) := by decide +kernel
theorem dX6_fault_4 : decode cX6_fault 4 = .ok (.invokevirtual 84, 3) := by decide +kernel
theorem dX6_fault_7 : decode cX6_fault 7 = .ok (.ireturn, 1) := by decide +kernel
theorem dX6_lay_0 : decode cX6_lay 0 = .ok (.aload_n 0, 1) := by decide +kernel
theorem dX6_lay_1 : decode cX6_lay 1 = .ok (.getfield 10, 3) := by decide +kernel
theorem dX6_lay_4 : decode cX6_lay 4 = .ok (.invokevirtual 88, 3) := by decide +kernel
theorem dX6_lay_7 : decode cX6_lay 7 = .ok (.ifCond .ne 6, 3) := by decide +kernel
theorem dX6_lay_10 : decode cX6_lay 10 = .ok (.bipush (-2), 2) := by decide +kernel
theorem dX6_lay_12 : decode cX6_lay 12 = .ok (.ireturn, 1) := by decide +kernel
theorem dX6_lay_13 : decode cX6_lay 13 = .ok (.aload_n 0, 1) := by decide +kernel
theorem dX6_lay_14 : decode cX6_lay 14 = .ok (.getfield 19, 3) := by decide +kernel
theorem dX6_lay_17 : decode cX6_lay 17 = .ok (.aload_n 0, 1) := by decide +kernel
theorem dX6_lay_18 : decode cX6_lay 18 = .ok (.getfield 10, 3) := by decide +kernel
theorem dX6_lay_21 : decode cX6_lay 21 = .ok (.aload_n 0, 1) := by decide +kernel
theorem dX6_lay_22 : decode cX6_lay 22 = .ok (.getfield 26, 3) := by decide +kernel
theorem dX6_lay_25 : decode cX6_lay 25 = .ok (.invokevirtual 64, 3) := by decide +kernel
theorem dX6_lay_28 : decode cX6_lay 28 = .ok (.aload_n 0, 1) := by decide +kernel
theorem dX6_lay_29 : decode cX6_lay 29 = .ok (.getfield 35, 3) := by decide +kernel
theorem dX6_lay_32 : decode cX6_lay 32 = .ok (.invokevirtual 91, 3) := by decide +kernel
theorem dX6_lay_35 : decode cX6_lay 35 = .ok (.aload_n 0, 1) := by decide +kernel
theorem dX6_lay_36 : decode cX6_lay 36 = .ok (.getfield 39, 3) := by decide +kernel
theorem dX6_lay_39 : decode cX6_lay 39 = .ok (.invokevirtual 91, 3) := by decide +kernel
theorem dX6_lay_42 : decode cX6_lay 42 = .ok (.aload_n 0, 1) := by decide +kernel
theorem dX6_lay_43 : decode cX6_lay 43 = .ok (.getfield 19, 3) := by decide +kernel
theorem dX6_lay_46 : decode cX6_lay 46 = .ok (.getfield 94, 3) := by decide +kernel
theorem dX6_lay_49 : decode cX6_lay 49 = .ok (.ireturn, 1) := by decide +kernel
theorem dX6_bough_0 : decode cX6_bough 0 = .ok (.aload_n 0, 1) := by decide +kernel
theorem dX6_bough_1 : decode cX6_bough 1 = .ok (.getfield 19, 3) := by decide +kernel
theorem dX6_bough_4 : decode cX6_bough 4 = .ok (.iload_n 1, 1) := by decide +kernel
theorem dX6_bough_5 : decode cX6_bough 5 = .ok (.invokevirtual 97, 3) := by decide +kernel
theorem dX6_bough_8 : decode cX6_bough 8 = .ok (.ifCond .ne 5, 3) := by decide +kernel
theorem dX6_bough_11 : decode cX6_bough 11 = .ok (.iconst (-1), 1) := by decide +kernel
theorem dX6_bough_12 : decode cX6_bough 12 = .ok (.ireturn, 1) := by decide +kernel
theorem dX6_bough_13 : decode cX6_bough 13 = .ok (.iload_n 2, 1) := by decide +kernel
theorem dX6_bough_14 : decode cX6_bough 14 = .ok (.tableswitch 136 0 6 #[42, 51, 60, 69, 78, 101, 124], 42) := by decide +kernel
theorem dX6_bough_56 : decode cX6_bough 56 = .ok (.aload_n 0, 1) := by decide +kernel
theorem dX6_bough_57 : decode cX6_bough 57 = .ok (.getfield 19, 3) := by decide +kernel
theorem dX6_bough_60 : decode cX6_bough 60 = .ok (.iload_n 1, 1) := by decide +kernel
theorem dX6_bough_61 : decode cX6_bough 61 = .ok (.invokevirtual 101, 3) := by decide +kernel
theorem dX6_bough_64 : decode cX6_bough 64 = .ok (.ireturn, 1) := by decide +kernel
theorem dX6_bough_65 : decode cX6_bough 65 = .ok (.aload_n 0, 1) := by decide +kernel
theorem dX6_bough_66 : decode cX6_bough 66 = .ok (.getfield 19, 3) := by decide +kernel
theorem dX6_bough_69 : decode cX6_bough 69 = .ok (.iload_n 1, 1) := by decide +kernel
theorem dX6_bough_70 : decode cX6_bough 70 = .ok (.invokevirtual 105, 3) := by decide +kernel
theorem dX6_bough_73 : decode cX6_bough 73 = .ok (.ireturn, 1) := by decide +kernel
theorem dX6_bough_74 : decode cX6_bough 74 = .ok (.aload_n 0, 1) := by decide +kernel
theorem dX6_bough_75 : decode cX6_bough 75 = .ok (.getfield 19, 3) := by decide +kernel
theorem dX6_bough_78 : decode cX6_bough 78 = .ok (.iload_n 1, 1) := by decide +kernel
theorem dX6_bough_79 : decode cX6_bough 79 = .ok (.invokevirtual 108, 3) := by decide +kernel
theorem dX6_bough_82 : decode cX6_bough 82 = .ok (.ireturn, 1) := by decide +kernel
theorem dX6_bough_83 : decode cX6_bough 83 = .ok (.aload_n 0, 1) := by decide +kernel
theorem dX6_bough_84 : decode cX6_bough 84 = .ok (.getfield 26, 3) := by decide +kernel
theorem dX6_bough_87 : decode cX6_bough 87 = .ok (.iload_n 1, 1) := by decide +kernel
theorem dX6_bough_88 : decode cX6_bough 88 = .ok (.invokevirtual 111, 3) := by decide +kernel
theorem dX6_bough_91 : decode cX6_bough 91 = .ok (.ireturn, 1) := by decide +kernel
theorem dX6_bough_92 : decode cX6_bough 92 = .ok (.aload_n 0, 1) := by decide +kernel
theorem dX6_bough_93 : decode cX6_bough 93 = .ok (.getfield 19, 3) := by decide +kernel
theorem dX6_bough_96 : decode cX6_bough 96 = .ok (.aload_n 0, 1) := by decide +kernel
theorem dX6_bough_97 : decode cX6_bough 97 = .ok (.getfield 26, 3) := by decide +kernel
theorem dX6_bough_100 : decode cX6_bough 100 = .ok (.iload_n 1, 1) := by decide +kernel
theorem dX6_bough_101 : decode cX6_bough 101 = .ok (.aload_n 0, 1) := by decide +kernel
theorem dX6_bough_102 : decode cX6_bough 102 = .ok (.getfield 26, 3) := by decide +kernel
theorem dX6_bough_105 : decode cX6_bough 105 = .ok (.getfield 114, 3) := by decide +kernel
theorem dX6_bough_108 : decode cX6_bough 108 = .ok (.invokevirtual 117, 3) := by decide +kernel
theorem dX6_bough_111 : decode cX6_bough 111 = .ok (.invokestatic 121, 3) := by decide +kernel
theorem dX6_bough_114 : decode cX6_bough 114 = .ok (.ireturn, 1) := by decide +kernel
theorem dX6_bough_115 : decode cX6_bough 115 = .ok (.aload_n 0, 1) := by decide +kernel
theorem dX6_bough_116 : decode cX6_bough 116 = .ok (.getfield 19, 3) := by decide +kernel
theorem dX6_bough_119 : decode cX6_bough 119 = .ok (.aload_n 0, 1) := by decide +kernel
theorem dX6_bough_120 : decode cX6_bough 120 = .ok (.getfield 26, 3) := by decide +kernel
theorem dX6_bough_123 : decode cX6_bough 123 = .ok (.iload_n 1, 1) := by decide +kernel
theorem dX6_bough_124 : decode cX6_bough 124 = .ok (.aload_n 0, 1) := by decide +kernel
theorem dX6_bough_125 : decode cX6_bough 125 = .ok (.getfield 26, 3) := by decide +kernel
theorem dX6_bough_128 : decode cX6_bough 128 = .ok (.getfield 114, 3) := by decide +kernel
theorem dX6_bough_131 : decode cX6_bough 131 = .ok (.invokevirtual 125, 3) := by decide +kernel
theorem dX6_bough_134 : decode cX6_bough 134 = .ok (.invokestatic 121, 3) := by decide +kernel
theorem dX6_bough_137 : decode cX6_bough 137 = .ok (.ireturn, 1) := by decide +kernel
theorem dX6_bough_138 : decode cX6_bough 138 = .ok (.aload_n 0, 1) := by decide +kernel
theorem dX6_bough_139 : decode cX6_bough 139 = .ok (.getfield 26, 3) := by decide +kernel
theorem dX6_bough_142 : decode cX6_bough 142 = .ok (.iload_n 1, 1) := by decide +kernel
theorem dX6_bough_143 : decode cX6_bough 143 = .ok (.invokevirtual 128, 3) := by decide +kernel
theorem dX6_bough_146 : decode cX6_bough 146 = .ok (.invokestatic 121, 3) := by decide +kernel
theorem dX6_bough_149 : decode cX6_bough 149 = .ok (.ireturn, 1) := by decide +kernel
theorem dX6_bough_150 : decode cX6_bough 150 = .ok (.iconst (-1), 1) := by decide +kernel
theorem dX6_bough_151 : decode cX6_bough 151 = .ok (.ireturn, 1) := by decide +kernel
theorem dX6_tenant_0 : decode cX6_tenant 0 = .ok (.aload_n 0, 1) := by decide +kernel
theorem dX6_tenant_1 : decode cX6_tenant 1 = .ok (.getfield 19, 3) := by decide +kernel
theorem dX6_tenant_4 : decode cX6_tenant 4 = .ok (.iload_n 1, 1) := by decide +kernel
theorem dX6_tenant_5 : decode cX6_tenant 5 = .ok (.invokevirtual 131, 3) := by decide +kernel
theorem dX6_tenant_8 : decode cX6_tenant 8 = .ok (.ifCond .ne 5, 3) := by decide +kernel
theorem dX6_tenant_11 : decode cX6_tenant 11 = .ok (.iconst (-1), 1) := by decide +kernel
theorem dX6_tenant_12 : decode cX6_tenant 12 = .ok (.ireturn, 1) := by decide +kernel
theorem dX6_tenant_13 : decode cX6_tenant 13 = .ok (.iload_n 2, 1) := by decide +kernel
theorem dX6_tenant_14 : decode cX6_tenant 14 = .ok (.tableswitch 99 0 5 #[38, 47, 56, 65, 74, 83], 38) := by decide +kernel
theorem dX6_tenant_52 : decode cX6_tenant 52 = .ok (.aload_n 0, 1) := by decide +kernel
theorem dX6_tenant_53 : decode cX6_tenant 53 = .ok (.getfield 26, 3) := by decide +kernel
theorem dX6_tenant_56 : decode cX6_tenant 56 = .ok (.iload_n 1, 1) := by decide +kernel
theorem dX6_tenant_57 : decode cX6_tenant 57 = .ok (.invokevirtual 134, 3) := by decide +kernel
theorem dX6_tenant_60 : decode cX6_tenant 60 = .ok (.ireturn, 1) := by decide +kernel
theorem dX6_tenant_61 : decode cX6_tenant 61 = .ok (.aload_n 0, 1) := by decide +kernel
theorem dX6_tenant_62 : decode cX6_tenant 62 = .ok (.getfield 19, 3) := by decide +kernel
theorem dX6_tenant_65 : decode cX6_tenant 65 = .ok (.iload_n 1, 1) := by decide +kernel
theorem dX6_tenant_66 : decode cX6_tenant 66 = .ok (.invokevirtual 137, 3) := by decide +kernel
theorem dX6_tenant_69 : decode cX6_tenant 69 = .ok (.ireturn, 1) := by decide +kernel
theorem dX6_tenant_70 : decode cX6_tenant 70 = .ok (.aload_n 0, 1) := by decide +kernel
theorem dX6_tenant_71 : decode cX6_tenant 71 = .ok (.getfield 19, 3) := by decide +kernel
theorem dX6_tenant_74 : decode cX6_tenant 74 = .ok (.iload_n 1, 1) := by decide +kernel
theorem dX6_tenant_75 : decode cX6_tenant 75 = .ok (.invokevirtual 140, 3) := by decide +kernel
theorem dX6_tenant_78 : decode cX6_tenant 78 = .ok (.ireturn, 1) := by decide +kernel
theorem dX6_tenant_79 : decode cX6_tenant 79 = .ok (.aload_n 0, 1) := by decide +kernel
theorem dX6_tenant_80 : decode cX6_tenant 80 = .ok (.getfield 26, 3) := by decide +kernel
theorem dX6_tenant_83 : decode cX6_tenant 83 = .ok (.iload_n 1, 1) := by decide +kernel
theorem dX6_tenant_84 : decode cX6_tenant 84 = .ok (.invokevirtual 143, 3) := by decide +kernel
theorem dX6_tenant_87 : decode cX6_tenant 87 = .ok (.ireturn, 1) := by decide +kernel
theorem dX6_tenant_88 : decode cX6_tenant 88 = .ok (.aload_n 0, 1) := by decide +kernel
theorem dX6_tenant_89 : decode cX6_tenant 89 = .ok (.getfield 26, 3) := by decide +kernel
theorem dX6_tenant_92 : decode cX6_tenant 92 = .ok (.iload_n 1, 1) := by decide +kernel
theorem dX6_tenant_93 : decode cX6_tenant 93 = .ok (.invokevirtual 146, 3) := by decide +kernel
theorem dX6_tenant_96 : decode cX6_tenant 96 = .ok (.ireturn, 1) := by decide +kernel
theorem dX6_tenant_97 : decode cX6_tenant 97 = .ok (.aload_n 0, 1) := by decide +kernel
theorem dX6_tenant_98 : decode cX6_tenant 98 = .ok (.getfield 19, 3) := by decide +kernel
theorem dX6_tenant_101 : decode cX6_tenant 101 = .ok (.aload_n 0, 1) := by decide +kernel
theorem dX6_tenant_102 : decode cX6_tenant 102 = .ok (.getfield 26, 3) := by decide +kernel
theorem dX6_tenant_105 : decode cX6_tenant 105 = .ok (.iload_n 1, 1) := by decide +kernel
theorem dX6_tenant_106 : decode cX6_tenant 106 = .ok (.invokevirtual 149, 3) := by decide +kernel
theorem dX6_tenant_109 : decode cX6_tenant 109 = .ok (.invokestatic 121, 3) := by decide +kernel
theorem dX6_tenant_112 : decode cX6_tenant 112 = .ok (.ireturn, 1) := by decide +kernel
theorem dX6_tenant_113 : decode cX6_tenant 113 = .ok (.iconst (-1), 1) := by decide +kernel
theorem dX6_tenant_114 : decode cX6_tenant 114 = .ok (.ireturn, 1) := by decide +kernel
theorem dX6_can_0 : decode cX6_can 0 = .ok (.aload_n 0, 1) := by decide +kernel
theorem dX6_can_1 : decode cX6_can 1 = .ok (.getfield 19, 3) := by decide +kernel
theorem dX6_can_4 : decode cX6_can 4 = .ok (.iload_n 1, 1) := by decide +kernel
theorem dX6_can_5 : decode cX6_can 5 = .ok (.invokevirtual 131, 3) := by decide +kernel
theorem dX6_can_8 : decode cX6_can 8 = .ok (.ifCond .eq 14, 3) := by decide +kernel
theorem dX6_can_11 : decode cX6_can 11 = .ok (.aload_n 0, 1) := by decide +kernel
theorem dX6_can_12 : decode cX6_can 12 = .ok (.getfield 19, 3) := by decide +kernel
theorem dX6_can_15 : decode cX6_can 15 = .ok (.iload_n 2, 1) := by decide +kernel
theorem dX6_can_16 : decode cX6_can 16 = .ok (.invokevirtual 97, 3) := by decide +kernel
theorem dX6_can_19 : decode cX6_can 19 = .ok (.ifCond .ne 5, 3) := by decide +kernel
theorem dX6_can_22 : decode cX6_can 22 = .ok (.iconst (-1), 1) := by decide +kernel
theorem dX6_can_23 : decode cX6_can 23 = .ok (.ireturn, 1) := by decide +kernel
theorem dX6_can_24 : decode cX6_can 24 = .ok (.aload_n 0, 1) := by decide +kernel
theorem dX6_can_25 : decode cX6_can 25 = .ok (.getfield 19, 3) := by decide +kernel
theorem dX6_can_28 : decode cX6_can 28 = .ok (.aload_n 0, 1) := by decide +kernel
theorem dX6_can_29 : decode cX6_can 29 = .ok (.getfield 26, 3) := by decide +kernel
theorem dX6_can_32 : decode cX6_can 32 = .ok (.iload_n 1, 1) := by decide +kernel
theorem dX6_can_33 : decode cX6_can 33 = .ok (.iload_n 2, 1) := by decide +kernel
theorem dX6_can_34 : decode cX6_can 34 = .ok (.invokevirtual 153, 3) := by decide +kernel
theorem dX6_can_37 : decode cX6_can 37 = .ok (.invokestatic 121, 3) := by decide +kernel
theorem dX6_can_40 : decode cX6_can 40 = .ok (.ireturn, 1) := by decide +kernel
theorem dX6_take_0 : decode cX6_take 0 = .ok (.aload_n 0, 1) := by decide +kernel
theorem dX6_take_1 : decode cX6_take 1 = .ok (.getfield 19, 3) := by decide +kernel
theorem dX6_take_4 : decode cX6_take 4 = .ok (.iload_n 1, 1) := by decide +kernel
theorem dX6_take_5 : decode cX6_take 5 = .ok (.invokevirtual 131, 3) := by decide +kernel
theorem dX6_take_8 : decode cX6_take 8 = .ok (.ifCond .eq 14, 3) := by decide +kernel
theorem dX6_take_11 : decode cX6_take 11 = .ok (.aload_n 0, 1) := by decide +kernel
theorem dX6_take_12 : decode cX6_take 12 = .ok (.getfield 19, 3) := by decide +kernel
theorem dX6_take_15 : decode cX6_take 15 = .ok (.iload_n 2, 1) := by decide +kernel
theorem dX6_take_16 : decode cX6_take 16 = .ok (.invokevirtual 97, 3) := by decide +kernel
theorem dX6_take_19 : decode cX6_take 19 = .ok (.ifCond .ne 5, 3) := by decide +kernel
theorem dX6_take_22 : decode cX6_take 22 = .ok (.iconst (-1), 1) := by decide +kernel
theorem dX6_take_23 : decode cX6_take 23 = .ok (.ireturn, 1) := by decide +kernel
theorem dX6_take_24 : decode cX6_take 24 = .ok (.aload_n 0, 1) := by decide +kernel
theorem dX6_take_25 : decode cX6_take 25 = .ok (.getfield 19, 3) := by decide +kernel
theorem dX6_take_28 : decode cX6_take 28 = .ok (.aload_n 0, 1) := by decide +kernel
theorem dX6_take_29 : decode cX6_take 29 = .ok (.getfield 26, 3) := by decide +kernel
theorem dX6_take_32 : decode cX6_take 32 = .ok (.iload_n 1, 1) := by decide +kernel
theorem dX6_take_33 : decode cX6_take 33 = .ok (.iload_n 2, 1) := by decide +kernel
theorem dX6_take_34 : decode cX6_take 34 = .ok (.invokevirtual 153, 3) := by decide +kernel
theorem dX6_take_37 : decode cX6_take 37 = .ok (.ifCond .ne 6, 3) := by decide +kernel
theorem dX6_take_40 : decode cX6_take 40 = .ok (.bipush (-2), 2) := by decide +kernel
theorem dX6_take_42 : decode cX6_take 42 = .ok (.ireturn, 1) := by decide +kernel
theorem dX6_take_43 : decode cX6_take 43 = .ok (.aload_n 0, 1) := by decide +kernel
theorem dX6_take_44 : decode cX6_take 44 = .ok (.getfield 19, 3) := by decide +kernel
theorem dX6_take_47 : decode cX6_take 47 = .ok (.aload_n 0, 1) := by decide +kernel
theorem dX6_take_48 : decode cX6_take 48 = .ok (.getfield 26, 3) := by decide +kernel
theorem dX6_take_51 : decode cX6_take 51 = .ok (.iload_n 1, 1) := by decide +kernel
theorem dX6_take_52 : decode cX6_take 52 = .ok (.iload_n 2, 1) := by decide +kernel
theorem dX6_take_53 : decode cX6_take 53 = .ok (.invokevirtual 156, 3) := by decide +kernel
theorem dX6_take_56 : decode cX6_take 56 = .ok (.istore_n 3, 1) := by decide +kernel
theorem dX6_take_57 : decode cX6_take 57 = .ok (.aload_n 0, 1) := by decide +kernel
theorem dX6_take_58 : decode cX6_take 58 = .ok (.getfield 35, 3) := by decide +kernel
theorem dX6_take_61 : decode cX6_take 61 = .ok (.aload_n 0, 1) := by decide +kernel
theorem dX6_take_62 : decode cX6_take 62 = .ok (.getfield 26, 3) := by decide +kernel
theorem dX6_take_65 : decode cX6_take 65 = .ok (.invokevirtual 159, 3) := by decide +kernel
theorem dX6_take_68 : decode cX6_take 68 = .ok (.aload_n 0, 1) := by decide +kernel
theorem dX6_take_69 : decode cX6_take 69 = .ok (.getfield 26, 3) := by decide +kernel
theorem dX6_take_72 : decode cX6_take 72 = .ok (.iload_n 1, 1) := by decide +kernel
theorem dX6_take_73 : decode cX6_take 73 = .ok (.iload_n 2, 1) := by decide +kernel
theorem dX6_take_74 : decode cX6_take 74 = .ok (.aload_n 0, 1) := by decide +kernel
theorem dX6_take_75 : decode cX6_take 75 = .ok (.getfield 19, 3) := by decide +kernel
theorem dX6_take_78 : decode cX6_take 78 = .ok (.iload_n 2, 1) := by decide +kernel
theorem dX6_take_79 : decode cX6_take 79 = .ok (.invokevirtual 108, 3) := by decide +kernel
theorem dX6_take_82 : decode cX6_take 82 = .ok (.invokevirtual 162, 3) := by decide +kernel
theorem dX6_take_85 : decode cX6_take 85 = .ok (.iload_n 3, 1) := by decide +kernel
theorem dX6_take_86 : decode cX6_take 86 = .ok (.ifCond .eq 11, 3) := by decide +kernel
theorem dX6_take_89 : decode cX6_take 89 = .ok (.aload_n 0, 1) := by decide +kernel
theorem dX6_take_90 : decode cX6_take 90 = .ok (.getfield 26, 3) := by decide +kernel
theorem dX6_take_93 : decode cX6_take 93 = .ok (.iload_n 1, 1) := by decide +kernel
theorem dX6_take_94 : decode cX6_take 94 = .ok (.invokevirtual 166, 3) := by decide +kernel
theorem dX6_take_97 : decode cX6_take 97 = .ok (.aload_n 0, 1) := by decide +kernel
theorem dX6_take_98 : decode cX6_take 98 = .ok (.getfield 26, 3) := by decide +kernel
theorem dX6_take_101 : decode cX6_take 101 = .ok (.iload_n 1, 1) := by decide +kernel
theorem dX6_take_102 : decode cX6_take 102 = .ok (.invokevirtual 143, 3) := by decide +kernel
theorem dX6_take_105 : decode cX6_take 105 = .ok (.ireturn, 1) := by decide +kernel
theorem dX6_pass_0 : decode cX6_pass 0 = .ok (.iload_n 1, 1) := by decide +kernel
theorem dX6_pass_1 : decode cX6_pass 1 = .ok (.iconst 1, 1) := by decide +kernel
theorem dX6_pass_2 : decode cX6_pass 2 = .ok (.bipush 30, 2) := by decide +kernel
theorem dX6_pass_4 : decode cX6_pass 4 = .ok (.invokestatic 72, 3) := by decide +kernel
theorem dX6_pass_7 : decode cX6_pass 7 = .ok (.ifCond .ne 5, 3) := by decide +kernel
theorem dX6_pass_10 : decode cX6_pass 10 = .ok (.iconst (-1), 1) := by decide +kernel
theorem dX6_pass_11 : decode cX6_pass 11 = .ok (.ireturn, 1) := by decide +kernel
theorem dX6_pass_12 : decode cX6_pass 12 = .ok (.aload_n 0, 1) := by decide +kernel
theorem dX6_pass_13 : decode cX6_pass 13 = .ok (.getfield 26, 3) := by decide +kernel
theorem dX6_pass_16 : decode cX6_pass 16 = .ok (.getfield 114, 3) := by decide +kernel
theorem dX6_pass_19 : decode cX6_pass 19 = .ok (.iload_n 1, 1) := by decide +kernel
theorem dX6_pass_20 : decode cX6_pass 20 = .ok (.iadd, 1) := by decide +kernel
theorem dX6_pass_21 : decode cX6_pass 21 = .ok (.bipush 99, 2) := by decide +kernel
theorem dX6_pass_23 : decode cX6_pass 23 = .ok (.if_icmp .le 6, 3) := by decide +kernel
theorem dX6_pass_26 : decode cX6_pass 26 = .ok (.bipush (-2), 2) := by decide +kernel
theorem dX6_pass_28 : decode cX6_pass 28 = .ok (.ireturn, 1) := by decide +kernel
theorem dX6_pass_29 : decode cX6_pass 29 = .ok (.aload_n 0, 1) := by decide +kernel
theorem dX6_pass_30 : decode cX6_pass 30 = .ok (.getfield 35, 3) := by decide +kernel
theorem dX6_pass_33 : decode cX6_pass 33 = .ok (.aload_n 0, 1) := by decide +kernel
theorem dX6_pass_34 : decode cX6_pass 34 = .ok (.getfield 26, 3) := by decide +kernel
theorem dX6_pass_37 : decode cX6_pass 37 = .ok (.invokevirtual 159, 3) := by decide +kernel
theorem dX6_pass_40 : decode cX6_pass 40 = .ok (.aload_n 0, 1) := by decide +kernel
theorem dX6_pass_41 : decode cX6_pass 41 = .ok (.getfield 26, 3) := by decide +kernel
theorem dX6_pass_44 : decode cX6_pass 44 = .ok (.iload_n 1, 1) := by decide +kernel
theorem dX6_pass_45 : decode cX6_pass 45 = .ok (.invokevirtual 169, 3) := by decide +kernel
theorem dX6_pass_48 : decode cX6_pass 48 = .ok (.aload_n 0, 1) := by decide +kernel
theorem dX6_pass_49 : decode cX6_pass 49 = .ok (.getfield 26, 3) := by decide +kernel
theorem dX6_pass_52 : decode cX6_pass 52 = .ok (.getfield 114, 3) := by decide +kernel
theorem dX6_pass_55 : decode cX6_pass 55 = .ok (.ireturn, 1) := by decide +kernel
theorem dX6_hook_0 : decode cX6_hook 0 = .ok (.aload_n 0, 1) := by decide +kernel
theorem dX6_hook_1 : decode cX6_hook 1 = .ok (.getfield 19, 3) := by decide +kernel
theorem dX6_hook_4 : decode cX6_hook 4 = .ok (.iload_n 1, 1) := by decide +kernel
theorem dX6_hook_5 : decode cX6_hook 5 = .ok (.invokevirtual 131, 3) := by decide +kernel
theorem dX6_hook_8 : decode cX6_hook 8 = .ok (.ifCond .eq 13, 3) := by decide +kernel
theorem dX6_hook_11 : decode cX6_hook 11 = .ok (.iload_n 2, 1) := by decide +kernel
theorem dX6_hook_12 : decode cX6_hook 12 = .ok (.iconst 1, 1) := by decide +kernel
theorem dX6_hook_13 : decode cX6_hook 13 = .ok (.bipush 20, 2) := by decide +kernel
theorem dX6_hook_15 : decode cX6_hook 15 = .ok (.invokestatic 72, 3) := by decide +kernel
theorem dX6_hook_18 : decode cX6_hook 18 = .ok (.ifCond .ne 5, 3) := by decide +kernel
theorem dX6_hook_21 : decode cX6_hook 21 = .ok (.iconst (-1), 1) := by decide +kernel
theorem dX6_hook_22 : decode cX6_hook 22 = .ok (.ireturn, 1) := by decide +kernel
theorem dX6_hook_23 : decode cX6_hook 23 = .ok (.aload_n 0, 1) := by decide +kernel
theorem dX6_hook_24 : decode cX6_hook 24 = .ok (.getfield 26, 3) := by decide +kernel
theorem dX6_hook_27 : decode cX6_hook 27 = .ok (.iload_n 1, 1) := by decide +kernel
theorem dX6_hook_28 : decode cX6_hook 28 = .ok (.invokevirtual 134, 3) := by decide +kernel
theorem dX6_hook_31 : decode cX6_hook 31 = .ok (.istore_n 3, 1) := by decide +kernel
theorem dX6_hook_32 : decode cX6_hook 32 = .ok (.aload_n 0, 1) := by decide +kernel
theorem dX6_hook_33 : decode cX6_hook 33 = .ok (.getfield 35, 3) := by decide +kernel
theorem dX6_hook_36 : decode cX6_hook 36 = .ok (.aload_n 0, 1) := by decide +kernel
theorem dX6_hook_37 : decode cX6_hook 37 = .ok (.getfield 26, 3) := by decide +kernel
theorem dX6_hook_40 : decode cX6_hook 40 = .ok (.invokevirtual 159, 3) := by decide +kernel
theorem dX6_hook_43 : decode cX6_hook 43 = .ok (.aload_n 0, 1) := by decide +kernel
theorem dX6_hook_44 : decode cX6_hook 44 = .ok (.getfield 26, 3) := by decide +kernel
theorem dX6_hook_47 : decode cX6_hook 47 = .ok (.iload_n 1, 1) := by decide +kernel
theorem dX6_hook_48 : decode cX6_hook 48 = .ok (.iload_n 2, 1) := by decide +kernel
theorem dX6_hook_49 : decode cX6_hook 49 = .ok (.invokevirtual 172, 3) := by decide +kernel
theorem dX6_hook_52 : decode cX6_hook 52 = .ok (.iload_n 3, 1) := by decide +kernel
theorem dX6_hook_53 : decode cX6_hook 53 = .ok (.ireturn, 1) := by decide +kernel
theorem dX6_ring_0 : decode cX6_ring 0 = .ok (.aload_n 0, 1) := by decide +kernel
theorem dX6_ring_1 : decode cX6_ring 1 = .ok (.getfield 19, 3) := by decide +kernel
theorem dX6_ring_4 : decode cX6_ring 4 = .ok (.iload_n 1, 1) := by decide +kernel
theorem dX6_ring_5 : decode cX6_ring 5 = .ok (.invokevirtual 97, 3) := by decide +kernel
theorem dX6_ring_8 : decode cX6_ring 8 = .ok (.ifCond .ne 5, 3) := by decide +kernel
theorem dX6_ring_11 : decode cX6_ring 11 = .ok (.iconst (-1), 1) := by decide +kernel
theorem dX6_ring_12 : decode cX6_ring 12 = .ok (.ireturn, 1) := by decide +kernel
theorem dX6_ring_13 : decode cX6_ring 13 = .ok (.aload_n 0, 1) := by decide +kernel
theorem dX6_ring_14 : decode cX6_ring 14 = .ok (.getfield 26, 3) := by decide +kernel
theorem dX6_ring_17 : decode cX6_ring 17 = .ok (.iload_n 1, 1) := by decide +kernel
theorem dX6_ring_18 : decode cX6_ring 18 = .ok (.invokevirtual 128, 3) := by decide +kernel
theorem dX6_ring_21 : decode cX6_ring 21 = .ok (.ifCond .ne 25, 3) := by decide +kernel
theorem dX6_ring_24 : decode cX6_ring 24 = .ok (.aload_n 0, 1) := by decide +kernel
theorem dX6_ring_25 : decode cX6_ring 25 = .ok (.getfield 19, 3) := by decide +kernel
theorem dX6_ring_28 : decode cX6_ring 28 = .ok (.aload_n 0, 1) := by decide +kernel
theorem dX6_ring_29 : decode cX6_ring 29 = .ok (.getfield 26, 3) := by decide +kernel
theorem dX6_ring_32 : decode cX6_ring 32 = .ok (.iload_n 1, 1) := by decide +kernel
theorem dX6_ring_33 : decode cX6_ring 33 = .ok (.aload_n 0, 1) := by decide +kernel
theorem dX6_ring_34 : decode cX6_ring 34 = .ok (.getfield 26, 3) := by decide +kernel
theorem dX6_ring_37 : decode cX6_ring 37 = .ok (.getfield 114, 3) := by decide +kernel
theorem dX6_ring_40 : decode cX6_ring 40 = .ok (.invokevirtual 117, 3) := by decide +kernel
theorem dX6_ring_43 : decode cX6_ring 43 = .ok (.ifCond .eq 6, 3) := by decide +kernel
theorem dX6_ring_46 : decode cX6_ring 46 = .ok (.bipush (-2), 2) := by decide +kernel
theorem dX6_ring_48 : decode cX6_ring 48 = .ok (.ireturn, 1) := by decide +kernel
theorem dX6_ring_49 : decode cX6_ring 49 = .ok (.aload_n 0, 1) := by decide +kernel
theorem dX6_ring_50 : decode cX6_ring 50 = .ok (.getfield 26, 3) := by decide +kernel
theorem dX6_ring_53 : decode cX6_ring 53 = .ok (.iload_n 1, 1) := by decide +kernel
theorem dX6_ring_54 : decode cX6_ring 54 = .ok (.invokevirtual 111, 3) := by decide +kernel
theorem dX6_ring_57 : decode cX6_ring 57 = .ok (.istore_n 2, 1) := by decide +kernel
theorem dX6_ring_58 : decode cX6_ring 58 = .ok (.aload_n 0, 1) := by decide +kernel
theorem dX6_ring_59 : decode cX6_ring 59 = .ok (.getfield 35, 3) := by decide +kernel
theorem dX6_ring_62 : decode cX6_ring 62 = .ok (.aload_n 0, 1) := by decide +kernel
theorem dX6_ring_63 : decode cX6_ring 63 = .ok (.getfield 26, 3) := by decide +kernel
theorem dX6_ring_66 : decode cX6_ring 66 = .ok (.invokevirtual 159, 3) := by decide +kernel
theorem dX6_ring_69 : decode cX6_ring 69 = .ok (.aload_n 0, 1) := by decide +kernel
theorem dX6_ring_70 : decode cX6_ring 70 = .ok (.getfield 26, 3) := by decide +kernel
theorem dX6_ring_73 : decode cX6_ring 73 = .ok (.iload_n 1, 1) := by decide +kernel
theorem dX6_ring_74 : decode cX6_ring 74 = .ok (.aload_n 0, 1) := by decide +kernel
theorem dX6_ring_75 : decode cX6_ring 75 = .ok (.getfield 26, 3) := by decide +kernel
theorem dX6_ring_78 : decode cX6_ring 78 = .ok (.getfield 114, 3) := by decide +kernel
theorem dX6_ring_81 : decode cX6_ring 81 = .ok (.invokevirtual 176, 3) := by decide +kernel
theorem dX6_ring_84 : decode cX6_ring 84 = .ok (.iload_n 2, 1) := by decide +kernel
theorem dX6_ring_85 : decode cX6_ring 85 = .ok (.ireturn, 1) := by decide +kernel
theorem dX6_undo_0 : decode cX6_undo 0 = .ok (.aload_n 0, 1) := by decide +kernel
theorem dX6_undo_1 : decode cX6_undo 1 = .ok (.getfield 35, 3) := by decide +kernel
theorem dX6_undo_4 : decode cX6_undo 4 = .ok (.getfield 179, 3) := by decide +kernel
theorem dX6_undo_7 : decode cX6_undo 7 = .ok (.ifCond .ne 6, 3) := by decide +kernel
theorem dX6_undo_10 : decode cX6_undo 10 = .ok (.bipush (-2), 2) := by decide +kernel
theorem dX6_undo_12 : decode cX6_undo 12 = .ok (.ireturn, 1) := by decide +kernel
theorem dX6_undo_13 : decode cX6_undo 13 = .ok (.aload_n 0, 1) := by decide +kernel
theorem dX6_undo_14 : decode cX6_undo 14 = .ok (.getfield 35, 3) := by decide +kernel
theorem dX6_undo_17 : decode cX6_undo 17 = .ok (.aload_n 0, 1) := by decide +kernel
theorem dX6_undo_18 : decode cX6_undo 18 = .ok (.getfield 26, 3) := by decide +kernel
theorem dX6_undo_21 : decode cX6_undo 21 = .ok (.invokevirtual 182, 3) := by decide +kernel
theorem dX6_undo_24 : decode cX6_undo 24 = .ok (.aload_n 0, 1) := by decide +kernel
theorem dX6_undo_25 : decode cX6_undo 25 = .ok (.getfield 35, 3) := by decide +kernel
theorem dX6_undo_28 : decode cX6_undo 28 = .ok (.getfield 179, 3) := by decide +kernel
theorem dX6_undo_31 : decode cX6_undo 31 = .ok (.ireturn, 1) := by decide +kernel
theorem dX6_warmBy_0 : decode cX6_warmBy 0 = .ok (.iload_n 1, 1) := by decide +kernel
theorem dX6_warmBy_1 : decode cX6_warmBy 1 = .ok (.aload_n 0, 1) := by decide +kernel
theorem dX6_warmBy_2 : decode cX6_warmBy 2 = .ok (.getfield 26, 3) := by decide +kernel
theorem dX6_warmBy_5 : decode cX6_warmBy 5 = .ok (.getfield 114, 3) := by decide +kernel
theorem dX6_warmBy_8 : decode cX6_warmBy 8 = .ok (.bipush 99, 2) := by decide +kernel
theorem dX6_warmBy_10 : decode cX6_warmBy 10 = .ok (.invokestatic 72, 3) := by decide +kernel
theorem dX6_warmBy_13 : decode cX6_warmBy 13 = .ok (.ifCond .ne 5, 3) := by decide +kernel
theorem dX6_warmBy_16 : decode cX6_warmBy 16 = .ok (.iconst (-1), 1) := by decide +kernel
theorem dX6_warmBy_17 : decode cX6_warmBy 17 = .ok (.ireturn, 1) := by decide +kernel
theorem dX6_warmBy_18 : decode cX6_warmBy 18 = .ok (.aload_n 0, 1) := by decide +kernel
theorem dX6_warmBy_19 : decode cX6_warmBy 19 = .ok (.getfield 47, 3) := by decide +kernel
theorem dX6_warmBy_22 : decode cX6_warmBy 22 = .ok (.aload_n 0, 1) := by decide +kernel
theorem dX6_warmBy_23 : decode cX6_warmBy 23 = .ok (.getfield 26, 3) := by decide +kernel
theorem dX6_warmBy_26 : decode cX6_warmBy 26 = .ok (.invokevirtual 185, 3) := by decide +kernel
theorem dX6_warmBy_29 : decode cX6_warmBy 29 = .ok (.aload_n 0, 1) := by decide +kernel
theorem dX6_warmBy_30 : decode cX6_warmBy 30 = .ok (.getfield 47, 3) := by decide +kernel
theorem dX6_warmBy_33 : decode cX6_warmBy 33 = .ok (.iload_n 1, 1) := by decide +kernel
theorem dX6_warmBy_34 : decode cX6_warmBy 34 = .ok (.invokevirtual 188, 3) := by decide +kernel
theorem dX6_warmBy_37 : decode cX6_warmBy 37 = .ok (.aload_n 0, 1) := by decide +kernel
theorem dX6_warmBy_38 : decode cX6_warmBy 38 = .ok (.getfield 19, 3) := by decide +kernel
theorem dX6_warmBy_41 : decode cX6_warmBy 41 = .ok (.aload_n 0, 1) := by decide +kernel
theorem dX6_warmBy_42 : decode cX6_warmBy 42 = .ok (.getfield 47, 3) := by decide +kernel
theorem dX6_warmBy_45 : decode cX6_warmBy 45 = .ok (.getfield 191, 3) := by decide +kernel
theorem dX6_warmBy_48 : decode cX6_warmBy 48 = .ok (.invokevirtual 194, 3) := by decide +kernel
theorem dX6_warmBy_51 : decode cX6_warmBy 51 = .ok (.ireturn, 1) := by decide +kernel
theorem dX6_allWarm_0 : decode cX6_allWarm 0 = .ok (.aload_n 0, 1) := by decide +kernel
theorem dX6_allWarm_1 : decode cX6_allWarm 1 = .ok (.getfield 47, 3) := by decide +kernel
theorem dX6_allWarm_4 : decode cX6_allWarm 4 = .ok (.aload_n 0, 1) := by decide +kernel
theorem dX6_allWarm_5 : decode cX6_allWarm 5 = .ok (.getfield 26, 3) := by decide +kernel
theorem dX6_allWarm_8 : decode cX6_allWarm 8 = .ok (.invokevirtual 185, 3) := by decide +kernel
theorem dX6_allWarm_11 : decode cX6_allWarm 11 = .ok (.aload_n 0, 1) := by decide +kernel
theorem dX6_allWarm_12 : decode cX6_allWarm 12 = .ok (.getfield 47, 3) := by decide +kernel
theorem dX6_allWarm_15 : decode cX6_allWarm 15 = .ok (.invokevirtual 198, 3) := by decide +kernel
theorem dX6_allWarm_18 : decode cX6_allWarm 18 = .ok (.ireturn, 1) := by decide +kernel
theorem dX6_share_0 : decode cX6_share 0 = .ok (.iload_n 1, 1) := by decide +kernel
theorem dX6_share_1 : decode cX6_share 1 = .ok (.iconst (-1), 1) := by decide +kernel
theorem dX6_share_2 : decode cX6_share 2 = .ok (.if_icmp .eq 16, 3) := by decide +kernel
theorem dX6_share_5 : decode cX6_share 5 = .ok (.aload_n 0, 1) := by decide +kernel
theorem dX6_share_6 : decode cX6_share 6 = .ok (.getfield 19, 3) := by decide +kernel
theorem dX6_share_9 : decode cX6_share 9 = .ok (.iload_n 1, 1) := by decide +kernel
theorem dX6_share_10 : decode cX6_share 10 = .ok (.invokevirtual 97, 3) := by decide +kernel
theorem dX6_share_13 : decode cX6_share 13 = .ok (.ifCond .ne 5, 3) := by decide +kernel
theorem dX6_share_16 : decode cX6_share 16 = .ok (.iconst (-1), 1) := by decide +kernel
theorem dX6_share_17 : decode cX6_share 17 = .ok (.ireturn, 1) := by decide +kernel
theorem dX6_share_18 : decode cX6_share 18 = .ok (.aload_n 0, 1) := by decide +kernel
theorem dX6_share_19 : decode cX6_share 19 = .ok (.getfield 54, 3) := by decide +kernel
theorem dX6_share_22 : decode cX6_share 22 = .ok (.aload_n 0, 1) := by decide +kernel
theorem dX6_share_23 : decode cX6_share 23 = .ok (.getfield 26, 3) := by decide +kernel
theorem dX6_share_26 : decode cX6_share 26 = .ok (.invokevirtual 201, 3) := by decide +kernel
theorem dX6_share_29 : decode cX6_share 29 = .ok (.iload_n 1, 1) := by decide +kernel
theorem dX6_share_30 : decode cX6_share 30 = .ok (.iconst (-1), 1) := by decide +kernel
theorem dX6_share_31 : decode cX6_share 31 = .ok (.if_icmp .ne 13, 3) := by decide +kernel
theorem dX6_share_34 : decode cX6_share 34 = .ok (.aload_n 0, 1) := by decide +kernel
theorem dX6_share_35 : decode cX6_share 35 = .ok (.getfield 54, 3) := by decide +kernel
theorem dX6_share_38 : decode cX6_share 38 = .ok (.getfield 204, 3) := by decide +kernel
theorem dX6_share_41 : decode cX6_share 41 = .ok (.goto 11, 3) := by decide +kernel
theorem dX6_share_44 : decode cX6_share 44 = .ok (.aload_n 0, 1) := by decide +kernel
theorem dX6_share_45 : decode cX6_share 45 = .ok (.getfield 54, 3) := by decide +kernel
theorem dX6_share_48 : decode cX6_share 48 = .ok (.iload_n 1, 1) := by decide +kernel
theorem dX6_share_49 : decode cX6_share 49 = .ok (.invokevirtual 207, 3) := by decide +kernel
theorem dX6_share_52 : decode cX6_share 52 = .ok (.ireturn, 1) := by decide +kernel
theorem dX6_leastHook_0 : decode cX6_leastHook 0 = .ok (.aload_n 0, 1) := by decide +kernel
theorem dX6_leastHook_1 : decode cX6_leastHook 1 = .ok (.getfield 19, 3) := by decide +kernel
theorem dX6_leastHook_4 : decode cX6_leastHook 4 = .ok (.iload_n 1, 1) := by decide +kernel
theorem dX6_leastHook_5 : decode cX6_leastHook 5 = .ok (.invokevirtual 131, 3) := by decide +kernel
theorem dX6_leastHook_8 : decode cX6_leastHook 8 = .ok (.ifCond .ne 5, 3) := by decide +kernel
theorem dX6_leastHook_11 : decode cX6_leastHook 11 = .ok (.iconst (-1), 1) := by decide +kernel
theorem dX6_leastHook_12 : decode cX6_leastHook 12 = .ok (.ireturn, 1) := by decide +kernel
theorem dX6_leastHook_13 : decode cX6_leastHook 13 = .ok (.iconst 1, 1) := by decide +kernel
theorem dX6_leastHook_14 : decode cX6_leastHook 14 = .ok (.istore_n 2, 1) := by decide +kernel
theorem dX6_leastHook_15 : decode cX6_leastHook 15 = .ok (.iload_n 2, 1) := by decide +kernel
theorem dX6_leastHook_16 : decode cX6_leastHook 16 = .ok (.bipush 20, 2) := by decide +kernel
theorem dX6_leastHook_18 : decode cX6_leastHook 18 = .ok (.if_icmp .gt 61, 3) := by decide +kernel
theorem dX6_leastHook_21 : decode cX6_leastHook 21 = .ok (.aload_n 0, 1) := by decide +kernel
theorem dX6_leastHook_22 : decode cX6_leastHook 22 = .ok (.getfield 47, 3) := by decide +kernel
theorem dX6_leastHook_25 : decode cX6_leastHook 25 = .ok (.aload_n 0, 1) := by decide +kernel
theorem dX6_leastHook_26 : decode cX6_leastHook 26 = .ok (.getfield 26, 3) := by decide +kernel
theorem dX6_leastHook_29 : decode cX6_leastHook 29 = .ok (.invokevirtual 185, 3) := by decide +kernel
theorem dX6_leastHook_32 : decode cX6_leastHook 32 = .ok (.aload_n 0, 1) := by decide +kernel
theorem dX6_leastHook_33 : decode cX6_leastHook 33 = .ok (.getfield 47, 3) := by decide +kernel
theorem dX6_leastHook_36 : decode cX6_leastHook 36 = .ok (.getfield 191, 3) := by decide +kernel
theorem dX6_leastHook_39 : decode cX6_leastHook 39 = .ok (.iload_n 1, 1) := by decide +kernel
theorem dX6_leastHook_40 : decode cX6_leastHook 40 = .ok (.iload_n 2, 1) := by decide +kernel
theorem dX6_leastHook_41 : decode cX6_leastHook 41 = .ok (.invokevirtual 172, 3) := by decide +kernel
theorem dX6_leastHook_44 : decode cX6_leastHook 44 = .ok (.aload_n 0, 1) := by decide +kernel
theorem dX6_leastHook_45 : decode cX6_leastHook 45 = .ok (.getfield 47, 3) := by decide +kernel
theorem dX6_leastHook_48 : decode cX6_leastHook 48 = .ok (.bipush 99, 2) := by decide +kernel
theorem dX6_leastHook_50 : decode cX6_leastHook 50 = .ok (.invokevirtual 188, 3) := by decide +kernel
theorem dX6_leastHook_53 : decode cX6_leastHook 53 = .ok (.aload_n 0, 1) := by decide +kernel
theorem dX6_leastHook_54 : decode cX6_leastHook 54 = .ok (.getfield 19, 3) := by decide +kernel
theorem dX6_leastHook_57 : decode cX6_leastHook 57 = .ok (.aload_n 0, 1) := by decide +kernel
theorem dX6_leastHook_58 : decode cX6_leastHook 58 = .ok (.getfield 47, 3) := by decide +kernel
theorem dX6_leastHook_61 : decode cX6_leastHook 61 = .ok (.getfield 191, 3) := by decide +kernel
theorem dX6_leastHook_64 : decode cX6_leastHook 64 = .ok (.iload_n 1, 1) := by decide +kernel
theorem dX6_leastHook_65 : decode cX6_leastHook 65 = .ok (.invokevirtual 149, 3) := by decide +kernel
theorem dX6_leastHook_68 : decode cX6_leastHook 68 = .ok (.ifCond .eq 5, 3) := by decide +kernel
theorem dX6_leastHook_71 : decode cX6_leastHook 71 = .ok (.iload_n 2, 1) := by decide +kernel
theorem dX6_leastHook_72 : decode cX6_leastHook 72 = .ok (.ireturn, 1) := by decide +kernel
theorem dX6_leastHook_73 : decode cX6_leastHook 73 = .ok (.iinc 2 1, 3) := by decide +kernel
theorem dX6_leastHook_76 : decode cX6_leastHook 76 = .ok (.goto (-61), 3) := by decide +kernel
theorem dX6_leastHook_79 : decode cX6_leastHook 79 = .ok (.bipush (-4), 2) := by decide +kernel
theorem dX6_leastHook_81 : decode cX6_leastHook 81 = .ok (.ireturn, 1) := by decide +kernel
theorem dX6_pole_0 : decode cX6_pole 0 = .ok (.iconst 1, 1) := by decide +kernel
theorem dX6_pole_1 : decode cX6_pole 1 = .ok (.istore_n 1, 1) := by decide +kernel
theorem dX6_pole_2 : decode cX6_pole 2 = .ok (.iload_n 1, 1) := by decide +kernel
theorem dX6_pole_3 : decode cX6_pole 3 = .ok (.bipush 20, 2) := by decide +kernel
theorem dX6_pole_5 : decode cX6_pole 5 = .ok (.if_icmp .gt 56, 3) := by decide +kernel
theorem dX6_pole_8 : decode cX6_pole 8 = .ok (.aload_n 0, 1) := by decide +kernel
theorem dX6_pole_9 : decode cX6_pole 9 = .ok (.getfield 47, 3) := by decide +kernel
theorem dX6_pole_12 : decode cX6_pole 12 = .ok (.aload_n 0, 1) := by decide +kernel
theorem dX6_pole_13 : decode cX6_pole 13 = .ok (.getfield 26, 3) := by decide +kernel
theorem dX6_pole_16 : decode cX6_pole 16 = .ok (.invokevirtual 185, 3) := by decide +kernel
theorem dX6_pole_19 : decode cX6_pole 19 = .ok (.aload_n 0, 1) := by decide +kernel
theorem dX6_pole_20 : decode cX6_pole 20 = .ok (.getfield 47, 3) := by decide +kernel
theorem dX6_pole_23 : decode cX6_pole 23 = .ok (.iload_n 1, 1) := by decide +kernel
theorem dX6_pole_24 : decode cX6_pole 24 = .ok (.invokevirtual 210, 3) := by decide +kernel
theorem dX6_pole_27 : decode cX6_pole 27 = .ok (.aload_n 0, 1) := by decide +kernel
theorem dX6_pole_28 : decode cX6_pole 28 = .ok (.getfield 47, 3) := by decide +kernel
theorem dX6_pole_31 : decode cX6_pole 31 = .ok (.bipush 99, 2) := by decide +kernel
theorem dX6_pole_33 : decode cX6_pole 33 = .ok (.invokevirtual 188, 3) := by decide +kernel
theorem dX6_pole_36 : decode cX6_pole 36 = .ok (.aload_n 0, 1) := by decide +kernel
theorem dX6_pole_37 : decode cX6_pole 37 = .ok (.getfield 19, 3) := by decide +kernel
theorem dX6_pole_40 : decode cX6_pole 40 = .ok (.aload_n 0, 1) := by decide +kernel
theorem dX6_pole_41 : decode cX6_pole 41 = .ok (.getfield 47, 3) := by decide +kernel
theorem dX6_pole_44 : decode cX6_pole 44 = .ok (.getfield 191, 3) := by decide +kernel
theorem dX6_pole_47 : decode cX6_pole 47 = .ok (.invokevirtual 213, 3) := by decide +kernel
theorem dX6_pole_50 : decode cX6_pole 50 = .ok (.ifCond .eq 5, 3) := by decide +kernel
theorem dX6_pole_53 : decode cX6_pole 53 = .ok (.iload_n 1, 1) := by decide +kernel
theorem dX6_pole_54 : decode cX6_pole 54 = .ok (.ireturn, 1) := by decide +kernel
theorem dX6_pole_55 : decode cX6_pole 55 = .ok (.iinc 1 1, 3) := by decide +kernel
theorem dX6_pole_58 : decode cX6_pole 58 = .ok (.goto (-56), 3) := by decide +kernel
theorem dX6_pole_61 : decode cX6_pole 61 = .ok (.bipush (-4), 2) := by decide +kernel
theorem dX6_pole_63 : decode cX6_pole 63 = .ok (.ireturn, 1) := by decide +kernel
theorem dX6_firstDay_0 : decode cX6_firstDay 0 = .ok (.aload_n 0, 1) := by decide +kernel
theorem dX6_firstDay_1 : decode cX6_firstDay 1 = .ok (.getfield 19, 3) := by decide +kernel
theorem dX6_firstDay_4 : decode cX6_firstDay 4 = .ok (.iload_n 1, 1) := by decide +kernel
theorem dX6_firstDay_5 : decode cX6_firstDay 5 = .ok (.invokevirtual 131, 3) := by decide +kernel
theorem dX6_firstDay_8 : decode cX6_firstDay 8 = .ok (.ifCond .eq 14, 3) := by decide +kernel
theorem dX6_firstDay_11 : decode cX6_firstDay 11 = .ok (.aload_n 0, 1) := by decide +kernel
theorem dX6_firstDay_12 : decode cX6_firstDay 12 = .ok (.getfield 19, 3) := by decide +kernel
theorem dX6_firstDay_15 : decode cX6_firstDay 15 = .ok (.iload_n 2, 1) := by decide +kernel
theorem dX6_firstDay_16 : decode cX6_firstDay 16 = .ok (.invokevirtual 97, 3) := by decide +kernel
theorem dX6_firstDay_19 : decode cX6_firstDay 19 = .ok (.ifCond .ne 5, 3) := by decide +kernel
theorem dX6_firstDay_22 : decode cX6_firstDay 22 = .ok (.iconst (-1), 1) := by decide +kernel
theorem dX6_firstDay_23 : decode cX6_firstDay 23 = .ok (.ireturn, 1) := by decide +kernel
theorem dX6_firstDay_24 : decode cX6_firstDay 24 = .ok (.aload_n 0, 1) := by decide +kernel
theorem dX6_firstDay_25 : decode cX6_firstDay 25 = .ok (.getfield 19, 3) := by decide +kernel
theorem dX6_firstDay_28 : decode cX6_firstDay 28 = .ok (.aload_n 0, 1) := by decide +kernel
theorem dX6_firstDay_29 : decode cX6_firstDay 29 = .ok (.getfield 26, 3) := by decide +kernel
theorem dX6_firstDay_32 : decode cX6_firstDay 32 = .ok (.iload_n 1, 1) := by decide +kernel
theorem dX6_firstDay_33 : decode cX6_firstDay 33 = .ok (.iload_n 2, 1) := by decide +kernel
theorem dX6_firstDay_34 : decode cX6_firstDay 34 = .ok (.invokevirtual 217, 3) := by decide +kernel
theorem dX6_firstDay_37 : decode cX6_firstDay 37 = .ok (.ireturn, 1) := by decide +kernel
theorem dX6_sticks_0 : decode cX6_sticks 0 = .ok (.iload_n 1, 1) := by decide +kernel
theorem dX6_sticks_1 : decode cX6_sticks 1 = .ok (.iconst 0, 1) := by decide +kernel
theorem dX6_sticks_2 : decode cX6_sticks 2 = .ok (.bipush 99, 2) := by decide +kernel
theorem dX6_sticks_4 : decode cX6_sticks 4 = .ok (.invokestatic 72, 3) := by decide +kernel
theorem dX6_sticks_7 : decode cX6_sticks 7 = .ok (.ifCond .eq 12, 3) := by decide +kernel
theorem dX6_sticks_10 : decode cX6_sticks 10 = .ok (.iload_n 2, 1) := by decide +kernel
theorem dX6_sticks_11 : decode cX6_sticks 11 = .ok (.iconst 0, 1) := by decide +kernel
theorem dX6_sticks_12 : decode cX6_sticks 12 = .ok (.iconst 1, 1) := by decide +kernel
theorem dX6_sticks_13 : decode cX6_sticks 13 = .ok (.invokestatic 72, 3) := by decide +kernel
theorem dX6_sticks_16 : decode cX6_sticks 16 = .ok (.ifCond .ne 5, 3) := by decide +kernel
theorem dX6_sticks_19 : decode cX6_sticks 19 = .ok (.iconst (-1), 1) := by decide +kernel
theorem dX6_sticks_20 : decode cX6_sticks 20 = .ok (.ireturn, 1) := by decide +kernel
theorem dX6_sticks_21 : decode cX6_sticks 21 = .ok (.iconst 0, 1) := by decide +kernel
theorem dX6_sticks_22 : decode cX6_sticks 22 = .ok (.istore_n 3, 1) := by decide +kernel
theorem dX6_sticks_23 : decode cX6_sticks 23 = .ok (.bipush (-4), 2) := by decide +kernel
theorem dX6_sticks_25 : decode cX6_sticks 25 = .ok (.istore 4, 2) := by decide +kernel
theorem dX6_sticks_27 : decode cX6_sticks 27 = .ok (.iconst 0, 1) := by decide +kernel
theorem dX6_sticks_28 : decode cX6_sticks 28 = .ok (.istore 5, 2) := by decide +kernel
theorem dX6_sticks_30 : decode cX6_sticks 30 = .ok (.iload 5, 2) := by decide +kernel
theorem dX6_sticks_32 : decode cX6_sticks 32 = .ok (.sipush 256, 3) := by decide +kernel
theorem dX6_sticks_35 : decode cX6_sticks 35 = .ok (.if_icmp .ge 51, 3) := by decide +kernel
theorem dX6_sticks_38 : decode cX6_sticks 38 = .ok (.iload 5, 2) := by decide +kernel
theorem dX6_sticks_40 : decode cX6_sticks 40 = .ok (.aload_n 0, 1) := by decide +kernel
theorem dX6_sticks_41 : decode cX6_sticks 41 = .ok (.getfield 26, 3) := by decide +kernel
theorem dX6_sticks_44 : decode cX6_sticks 44 = .ok (.getfield 221, 3) := by decide +kernel
theorem dX6_sticks_47 : decode cX6_sticks 47 = .ok (.iconst (-1), 1) := by decide +kernel
theorem dX6_sticks_48 : decode cX6_sticks 48 = .ok (.ixor, 1) := by decide +kernel
theorem dX6_sticks_49 : decode cX6_sticks 49 = .ok (.iand, 1) := by decide +kernel
theorem dX6_sticks_50 : decode cX6_sticks 50 = .ok (.ifCond .ne 30, 3) := by decide +kernel
theorem dX6_sticks_53 : decode cX6_sticks 53 = .ok (.aload_n 0, 1) := by decide +kernel
theorem dX6_sticks_54 : decode cX6_sticks 54 = .ok (.getfield 19, 3) := by decide +kernel
theorem dX6_sticks_57 : decode cX6_sticks 57 = .ok (.iload 5, 2) := by decide +kernel
theorem dX6_sticks_59 : decode cX6_sticks 59 = .ok (.invokevirtual 224, 3) := by decide +kernel
theorem dX6_sticks_62 : decode cX6_sticks 62 = .ok (.iload_n 1, 1) := by decide +kernel
theorem dX6_sticks_63 : decode cX6_sticks 63 = .ok (.if_icmp .ne 17, 3) := by decide +kernel
theorem dX6_sticks_66 : decode cX6_sticks 66 = .ok (.iinc 3 1, 3) := by decide +kernel
theorem dX6_sticks_69 : decode cX6_sticks 69 = .ok (.iload 4, 2) := by decide +kernel
theorem dX6_sticks_71 : decode cX6_sticks 71 = .ok (.bipush (-4), 2) := by decide +kernel
theorem dX6_sticks_73 : decode cX6_sticks 73 = .ok (.if_icmp .ne 7, 3) := by decide +kernel
theorem dX6_sticks_76 : decode cX6_sticks 76 = .ok (.iload 5, 2) := by decide +kernel
theorem dX6_sticks_78 : decode cX6_sticks 78 = .ok (.istore 4, 2) := by decide +kernel
theorem dX6_sticks_80 : decode cX6_sticks 80 = .ok (.iinc 5 1, 3) := by decide +kernel
theorem dX6_sticks_83 : decode cX6_sticks 83 = .ok (.goto (-53), 3) := by decide +kernel
theorem dX6_sticks_86 : decode cX6_sticks 86 = .ok (.iload_n 2, 1) := by decide +kernel
theorem dX6_sticks_87 : decode cX6_sticks 87 = .ok (.ifCond .ne 7, 3) := by decide +kernel
theorem dX6_sticks_90 : decode cX6_sticks 90 = .ok (.iload_n 3, 1) := by decide +kernel
theorem dX6_sticks_91 : decode cX6_sticks 91 = .ok (.goto 5, 3) := by decide +kernel
theorem dX6_sticks_94 : decode cX6_sticks 94 = .ok (.iload 4, 2) := by decide +kernel
theorem dX6_sticks_96 : decode cX6_sticks 96 = .ok (.ireturn, 1) := by decide +kernel
theorem dX6_whose_0 : decode cX6_whose 0 = .ok (.aload_n 0, 1) := by decide +kernel
theorem dX6_whose_1 : decode cX6_whose 1 = .ok (.getfield 19, 3) := by decide +kernel
theorem dX6_whose_4 : decode cX6_whose 4 = .ok (.iload_n 1, 1) := by decide +kernel
theorem dX6_whose_5 : decode cX6_whose 5 = .ok (.invokevirtual 97, 3) := by decide +kernel
theorem dX6_whose_8 : decode cX6_whose 8 = .ok (.ifCond .eq 13, 3) := by decide +kernel
theorem dX6_whose_11 : decode cX6_whose 11 = .ok (.iload_n 2, 1) := by decide +kernel
theorem dX6_whose_12 : decode cX6_whose 12 = .ok (.iconst 0, 1) := by decide +kernel
theorem dX6_whose_13 : decode cX6_whose 13 = .ok (.bipush 99, 2) := by decide +kernel
theorem dX6_whose_15 : decode cX6_whose 15 = .ok (.invokestatic 72, 3) := by decide +kernel
theorem dX6_whose_18 : decode cX6_whose 18 = .ok (.ifCond .ne 5, 3) := by decide +kernel
theorem dX6_whose_21 : decode cX6_whose 21 = .ok (.iconst (-1), 1) := by decide +kernel
theorem dX6_whose_22 : decode cX6_whose 22 = .ok (.ireturn, 1) := by decide +kernel
theorem dX6_whose_23 : decode cX6_whose 23 = .ok (.iconst 0, 1) := by decide +kernel
theorem dX6_whose_24 : decode cX6_whose 24 = .ok (.istore_n 3, 1) := by decide +kernel
theorem dX6_whose_25 : decode cX6_whose 25 = .ok (.iconst 0, 1) := by decide +kernel
theorem dX6_whose_26 : decode cX6_whose 26 = .ok (.istore 4, 2) := by decide +kernel
theorem dX6_whose_28 : decode cX6_whose 28 = .ok (.iload 4, 2) := by decide +kernel
theorem dX6_whose_30 : decode cX6_whose 30 = .ok (.aload_n 0, 1) := by decide +kernel
theorem dX6_whose_31 : decode cX6_whose 31 = .ok (.getfield 19, 3) := by decide +kernel
theorem dX6_whose_34 : decode cX6_whose 34 = .ok (.getfield 227, 3) := by decide +kernel
theorem dX6_whose_37 : decode cX6_whose 37 = .ok (.if_icmp .ge 35, 3) := by decide +kernel
theorem dX6_whose_40 : decode cX6_whose 40 = .ok (.aload_n 0, 1) := by decide +kernel
theorem dX6_whose_41 : decode cX6_whose 41 = .ok (.getfield 19, 3) := by decide +kernel
theorem dX6_whose_44 : decode cX6_whose 44 = .ok (.aload_n 0, 1) := by decide +kernel
theorem dX6_whose_45 : decode cX6_whose 45 = .ok (.getfield 26, 3) := by decide +kernel
theorem dX6_whose_48 : decode cX6_whose 48 = .ok (.iload 4, 2) := by decide +kernel
theorem dX6_whose_50 : decode cX6_whose 50 = .ok (.iload_n 1, 1) := by decide +kernel
theorem dX6_whose_51 : decode cX6_whose 51 = .ok (.iload_n 2, 1) := by decide +kernel
theorem dX6_whose_52 : decode cX6_whose 52 = .ok (.iconst 0, 1) := by decide +kernel
theorem dX6_whose_53 : decode cX6_whose 53 = .ok (.invokevirtual 230, 3) := by decide +kernel
theorem dX6_whose_56 : decode cX6_whose 56 = .ok (.ifCond .eq 10, 3) := by decide +kernel
theorem dX6_whose_59 : decode cX6_whose 59 = .ok (.iload_n 3, 1) := by decide +kernel
theorem dX6_whose_60 : decode cX6_whose 60 = .ok (.iconst 1, 1) := by decide +kernel
theorem dX6_whose_61 : decode cX6_whose 61 = .ok (.iload 4, 2) := by decide +kernel
theorem dX6_whose_63 : decode cX6_whose 63 = .ok (.ishl, 1) := by decide +kernel
theorem dX6_whose_64 : decode cX6_whose 64 = .ok (.ior, 1) := by decide +kernel
theorem dX6_whose_65 : decode cX6_whose 65 = .ok (.istore_n 3, 1) := by decide +kernel
theorem dX6_whose_66 : decode cX6_whose 66 = .ok (.iinc 4 1, 3) := by decide +kernel
theorem dX6_whose_69 : decode cX6_whose 69 = .ok (.goto (-41), 3) := by decide +kernel
theorem dX6_whose_72 : decode cX6_whose 72 = .ok (.iload_n 3, 1) := by decide +kernel
theorem dX6_whose_73 : decode cX6_whose 73 = .ok (.ireturn, 1) := by decide +kernel
theorem dX6_sure_0 : decode cX6_sure 0 = .ok (.aload_n 0, 1) := by decide +kernel
theorem dX6_sure_1 : decode cX6_sure 1 = .ok (.getfield 19, 3) := by decide +kernel
theorem dX6_sure_4 : decode cX6_sure 4 = .ok (.iload_n 1, 1) := by decide +kernel
theorem dX6_sure_5 : decode cX6_sure 5 = .ok (.invokevirtual 131, 3) := by decide +kernel
theorem dX6_sure_8 : decode cX6_sure 8 = .ok (.ifCond .eq 33, 3) := by decide +kernel
theorem dX6_sure_11 : decode cX6_sure 11 = .ok (.iload_n 2, 1) := by decide +kernel
theorem dX6_sure_12 : decode cX6_sure 12 = .ok (.iconst 0, 1) := by decide +kernel
theorem dX6_sure_13 : decode cX6_sure 13 = .ok (.bipush 8, 2) := by decide +kernel
theorem dX6_sure_15 : decode cX6_sure 15 = .ok (.invokestatic 72, 3) := by decide +kernel
theorem dX6_sure_18 : decode cX6_sure 18 = .ok (.ifCond .eq 23, 3) := by decide +kernel
theorem dX6_sure_21 : decode cX6_sure 21 = .ok (.iload_n 3, 1) := by decide +kernel
theorem dX6_sure_22 : decode cX6_sure 22 = .ok (.iconst 0, 1) := by decide +kernel
theorem dX6_sure_23 : decode cX6_sure 23 = .ok (.bipush 10, 2) := by decide +kernel
theorem dX6_sure_25 : decode cX6_sure 25 = .ok (.invokestatic 72, 3) := by decide +kernel
theorem dX6_sure_28 : decode cX6_sure 28 = .ok (.ifCond .eq 13, 3) := by decide +kernel
theorem dX6_sure_31 : decode cX6_sure 31 = .ok (.iload 4, 2) := by decide +kernel
theorem dX6_sure_33 : decode cX6_sure 33 = .ok (.iconst 0, 1) := by decide +kernel
theorem dX6_sure_34 : decode cX6_sure 34 = .ok (.iconst 1, 1) := by decide +kernel
theorem dX6_sure_35 : decode cX6_sure 35 = .ok (.invokestatic 72, 3) := by decide +kernel
theorem dX6_sure_38 : decode cX6_sure 38 = .ok (.ifCond .ne 5, 3) := by decide +kernel
theorem dX6_sure_41 : decode cX6_sure 41 = .ok (.iconst (-1), 1) := by decide +kernel
theorem dX6_sure_42 : decode cX6_sure 42 = .ok (.ireturn, 1) := by decide +kernel
theorem dX6_sure_43 : decode cX6_sure 43 = .ok (.aload_n 0, 1) := by decide +kernel
theorem dX6_sure_44 : decode cX6_sure 44 = .ok (.getfield 26, 3) := by decide +kernel
theorem dX6_sure_47 : decode cX6_sure 47 = .ok (.iload_n 1, 1) := by decide +kernel
theorem dX6_sure_48 : decode cX6_sure 48 = .ok (.invokevirtual 134, 3) := by decide +kernel
theorem dX6_sure_51 : decode cX6_sure 51 = .ok (.aload_n 0, 1) := by decide +kernel
theorem dX6_sure_52 : decode cX6_sure 52 = .ok (.getfield 19, 3) := by decide +kernel
theorem dX6_sure_55 : decode cX6_sure 55 = .ok (.getfield 234, 3) := by decide +kernel
theorem dX6_sure_58 : decode cX6_sure 58 = .ok (.if_icmp .gt 5, 3) := by decide +kernel
theorem dX6_sure_61 : decode cX6_sure 61 = .ok (.iconst 1, 1) := by decide +kernel
theorem dX6_sure_62 : decode cX6_sure 62 = .ok (.ireturn, 1) := by decide +kernel
theorem dX6_sure_63 : decode cX6_sure 63 = .ok (.bipush 10, 2) := by decide +kernel
theorem dX6_sure_65 : decode cX6_sure 65 = .ok (.iload_n 3, 1) := by decide +kernel
theorem dX6_sure_66 : decode cX6_sure 66 = .ok (.isub, 1) := by decide +kernel
theorem dX6_sure_67 : decode cX6_sure 67 = .ok (.invokestatic 237, 3) := by decide +kernel
theorem dX6_sure_70 : decode cX6_sure 70 = .ok (.istore 5, 2) := by decide +kernel
theorem dX6_sure_72 : decode cX6_sure 72 = .ok (.iload 4, 2) := by decide +kernel
theorem dX6_sure_74 : decode cX6_sure 74 = .ok (.ifCond .ne 10, 3) := by decide +kernel
theorem dX6_sure_77 : decode cX6_sure 77 = .ok (.bipush 10, 2) := by decide +kernel
theorem dX6_sure_79 : decode cX6_sure 79 = .ok (.iload_n 3, 1) := by decide +kernel
theorem dX6_sure_80 : decode cX6_sure 80 = .ok (.isub, 1) := by decide +kernel
theorem dX6_sure_81 : decode cX6_sure 81 = .ok (.goto 5, 3) := by decide +kernel
theorem dX6_sure_84 : decode cX6_sure 84 = .ok (.bipush 10, 2) := by decide +kernel
theorem dX6_sure_86 : decode cX6_sure 86 = .ok (.iload 5, 2) := by decide +kernel
theorem dX6_sure_88 : decode cX6_sure 88 = .ok (.idiv, 1) := by decide +kernel
theorem dX6_sure_89 : decode cX6_sure 89 = .ok (.istore 6, 2) := by decide +kernel
theorem dX6_sure_91 : decode cX6_sure 91 = .ok (.iconst 1, 1) := by decide +kernel
theorem dX6_sure_92 : decode cX6_sure 92 = .ok (.istore 7, 2) := by decide +kernel
theorem dX6_sure_94 : decode cX6_sure 94 = .ok (.iconst 0, 1) := by decide +kernel
theorem dX6_sure_95 : decode cX6_sure 95 = .ok (.istore 8, 2) := by decide +kernel
theorem dX6_sure_97 : decode cX6_sure 97 = .ok (.iload 8, 2) := by decide +kernel
theorem dX6_sure_99 : decode cX6_sure 99 = .ok (.iload_n 2, 1) := by decide +kernel
theorem dX6_sure_100 : decode cX6_sure 100 = .ok (.if_icmp .ge 16, 3) := by decide +kernel
theorem dX6_sure_103 : decode cX6_sure 103 = .ok (.iload 7, 2) := by decide +kernel
theorem dX6_sure_105 : decode cX6_sure 105 = .ok (.iload 6, 2) := by decide +kernel
theorem dX6_sure_107 : decode cX6_sure 107 = .ok (.imul, 1) := by decide +kernel
theorem dX6_sure_108 : decode cX6_sure 108 = .ok (.istore 7, 2) := by decide +kernel
theorem dX6_sure_110 : decode cX6_sure 110 = .ok (.iinc 8 1, 3) := by decide +kernel
theorem dX6_sure_113 : decode cX6_sure 113 = .ok (.goto (-16), 3) := by decide +kernel
theorem dX6_sure_116 : decode cX6_sure 116 = .ok (.iload 7, 2) := by decide +kernel
theorem dX6_sure_118 : decode cX6_sure 118 = .ok (.ireturn, 1) := by decide +kernel
theorem dX6_waste_0 : decode cX6_waste 0 = .ok (.iconst 0, 1) := by decide +kernel
theorem dX6_waste_1 : decode cX6_waste 1 = .ok (.istore_n 1, 1) := by decide +kernel
theorem dX6_waste_2 : decode cX6_waste 2 = .ok (.iconst 0, 1) := by decide +kernel
theorem dX6_waste_3 : decode cX6_waste 3 = .ok (.istore_n 2, 1) := by decide +kernel
theorem dX6_waste_4 : decode cX6_waste 4 = .ok (.iload_n 2, 1) := by decide +kernel
theorem dX6_waste_5 : decode cX6_waste 5 = .ok (.aload_n 0, 1) := by decide +kernel
theorem dX6_waste_6 : decode cX6_waste 6 = .ok (.getfield 19, 3) := by decide +kernel
theorem dX6_waste_9 : decode cX6_waste 9 = .ok (.getfield 94, 3) := by decide +kernel
theorem dX6_waste_12 : decode cX6_waste 12 = .ok (.if_icmp .ge 46, 3) := by decide +kernel
theorem dX6_waste_15 : decode cX6_waste 15 = .ok (.aload_n 0, 1) := by decide +kernel
theorem dX6_waste_16 : decode cX6_waste 16 = .ok (.getfield 26, 3) := by decide +kernel
theorem dX6_waste_19 : decode cX6_waste 19 = .ok (.iload_n 2, 1) := by decide +kernel
theorem dX6_waste_20 : decode cX6_waste 20 = .ok (.invokevirtual 128, 3) := by decide +kernel
theorem dX6_waste_23 : decode cX6_waste 23 = .ok (.ifCond .ne 29, 3) := by decide +kernel
theorem dX6_waste_26 : decode cX6_waste 26 = .ok (.aload_n 0, 1) := by decide +kernel
theorem dX6_waste_27 : decode cX6_waste 27 = .ok (.getfield 19, 3) := by decide +kernel
theorem dX6_waste_30 : decode cX6_waste 30 = .ok (.aload_n 0, 1) := by decide +kernel
theorem dX6_waste_31 : decode cX6_waste 31 = .ok (.getfield 26, 3) := by decide +kernel
theorem dX6_waste_34 : decode cX6_waste 34 = .ok (.iload_n 2, 1) := by decide +kernel
theorem dX6_waste_35 : decode cX6_waste 35 = .ok (.invokevirtual 240, 3) := by decide +kernel
theorem dX6_waste_38 : decode cX6_waste 38 = .ok (.ifCond .eq 14, 3) := by decide +kernel
theorem dX6_waste_41 : decode cX6_waste 41 = .ok (.iload_n 1, 1) := by decide +kernel
theorem dX6_waste_42 : decode cX6_waste 42 = .ok (.aload_n 0, 1) := by decide +kernel
theorem dX6_waste_43 : decode cX6_waste 43 = .ok (.getfield 19, 3) := by decide +kernel
theorem dX6_waste_46 : decode cX6_waste 46 = .ok (.iload_n 2, 1) := by decide +kernel
theorem dX6_waste_47 : decode cX6_waste 47 = .ok (.invokevirtual 108, 3) := by decide +kernel
theorem dX6_waste_50 : decode cX6_waste 50 = .ok (.iadd, 1) := by decide +kernel
theorem dX6_waste_51 : decode cX6_waste 51 = .ok (.istore_n 1, 1) := by decide +kernel
theorem dX6_waste_52 : decode cX6_waste 52 = .ok (.iinc 2 1, 3) := by decide +kernel
theorem dX6_waste_55 : decode cX6_waste 55 = .ok (.goto (-51), 3) := by decide +kernel
theorem dX6_waste_58 : decode cX6_waste 58 = .ok (.iload_n 1, 1) := by decide +kernel
theorem dX6_waste_59 : decode cX6_waste 59 = .ok (.ireturn, 1) := by decide +kernel
theorem dX6_needs_0 : decode cX6_needs 0 = .ok (.iconst 0, 1) := by decide +kernel
theorem dX6_needs_1 : decode cX6_needs 1 = .ok (.istore_n 1, 1) := by decide +kernel
theorem dX6_needs_2 : decode cX6_needs 2 = .ok (.iconst 0, 1) := by decide +kernel
theorem dX6_needs_3 : decode cX6_needs 3 = .ok (.istore_n 2, 1) := by decide +kernel
theorem dX6_needs_4 : decode cX6_needs 4 = .ok (.iload_n 2, 1) := by decide +kernel
theorem dX6_needs_5 : decode cX6_needs 5 = .ok (.aload_n 0, 1) := by decide +kernel
theorem dX6_needs_6 : decode cX6_needs 6 = .ok (.getfield 19, 3) := by decide +kernel
theorem dX6_needs_9 : decode cX6_needs 9 = .ok (.getfield 227, 3) := by decide +kernel
theorem dX6_needs_12 : decode cX6_needs 12 = .ok (.if_icmp .ge 33, 3) := by decide +kernel
theorem dX6_needs_15 : decode cX6_needs 15 = .ok (.iload_n 1, 1) := by decide +kernel
theorem dX6_needs_16 : decode cX6_needs 16 = .ok (.iconst 0, 1) := by decide +kernel
theorem dX6_needs_17 : decode cX6_needs 17 = .ok (.aload_n 0, 1) := by decide +kernel
theorem dX6_needs_18 : decode cX6_needs 18 = .ok (.getfield 19, 3) := by decide +kernel
theorem dX6_needs_21 : decode cX6_needs 21 = .ok (.iload_n 2, 1) := by decide +kernel
theorem dX6_needs_22 : decode cX6_needs 22 = .ok (.invokevirtual 140, 3) := by decide +kernel
theorem dX6_needs_25 : decode cX6_needs 25 = .ok (.aload_n 0, 1) := by decide +kernel
theorem dX6_needs_26 : decode cX6_needs 26 = .ok (.getfield 26, 3) := by decide +kernel
theorem dX6_needs_29 : decode cX6_needs 29 = .ok (.iload_n 2, 1) := by decide +kernel
theorem dX6_needs_30 : decode cX6_needs 30 = .ok (.invokevirtual 143, 3) := by decide +kernel
theorem dX6_needs_33 : decode cX6_needs 33 = .ok (.isub, 1) := by decide +kernel
theorem dX6_needs_34 : decode cX6_needs 34 = .ok (.invokestatic 243, 3) := by decide +kernel
theorem dX6_needs_37 : decode cX6_needs 37 = .ok (.iadd, 1) := by decide +kernel
theorem dX6_needs_38 : decode cX6_needs 38 = .ok (.istore_n 1, 1) := by decide +kernel
theorem dX6_needs_39 : decode cX6_needs 39 = .ok (.iinc 2 1, 3) := by decide +kernel
theorem dX6_needs_42 : decode cX6_needs 42 = .ok (.goto (-38), 3) := by decide +kernel
theorem dX6_needs_45 : decode cX6_needs 45 = .ok (.iload_n 1, 1) := by decide +kernel
theorem dX6_needs_46 : decode cX6_needs 46 = .ok (.ireturn, 1) := by decide +kernel
theorem dX6_storm_0 : decode cX6_storm 0 = .ok (.iload_n 1, 1) := by decide +kernel
theorem dX6_storm_1 : decode cX6_storm 1 = .ok (.iconst 0, 1) := by decide +kernel
theorem dX6_storm_2 : decode cX6_storm 2 = .ok (.sipush 9999, 3) := by decide +kernel
theorem dX6_storm_5 : decode cX6_storm 5 = .ok (.invokestatic 72, 3) := by decide +kernel
theorem dX6_storm_8 : decode cX6_storm 8 = .ok (.ifCond .eq 22, 3) := by decide +kernel
theorem dX6_storm_11 : decode cX6_storm 11 = .ok (.iload_n 2, 1) := by decide +kernel
theorem dX6_storm_12 : decode cX6_storm 12 = .ok (.iconst 1, 1) := by decide +kernel
theorem dX6_storm_13 : decode cX6_storm 13 = .ok (.bipush 30, 2) := by decide +kernel
theorem dX6_storm_15 : decode cX6_storm 15 = .ok (.invokestatic 72, 3) := by decide +kernel
theorem dX6_storm_18 : decode cX6_storm 18 = .ok (.ifCond .eq 12, 3) := by decide +kernel
theorem dX6_storm_21 : decode cX6_storm 21 = .ok (.iload_n 3, 1) := by decide +kernel
theorem dX6_storm_22 : decode cX6_storm 22 = .ok (.iconst 0, 1) := by decide +kernel
theorem dX6_storm_23 : decode cX6_storm 23 = .ok (.iconst 1, 1) := by decide +kernel
theorem dX6_storm_24 : decode cX6_storm 24 = .ok (.invokestatic 72, 3) := by decide +kernel
theorem dX6_storm_27 : decode cX6_storm 27 = .ok (.ifCond .ne 5, 3) := by decide +kernel
theorem dX6_storm_30 : decode cX6_storm 30 = .ok (.iconst (-1), 1) := by decide +kernel
theorem dX6_storm_31 : decode cX6_storm 31 = .ok (.ireturn, 1) := by decide +kernel
theorem dX6_storm_32 : decode cX6_storm 32 = .ok (.aload_n 0, 1) := by decide +kernel
theorem dX6_storm_33 : decode cX6_storm 33 = .ok (.getfield 26, 3) := by decide +kernel
theorem dX6_storm_36 : decode cX6_storm 36 = .ok (.getfield 114, 3) := by decide +kernel
theorem dX6_storm_39 : decode cX6_storm 39 = .ok (.iload_n 2, 1) := by decide +kernel
theorem dX6_storm_40 : decode cX6_storm 40 = .ok (.iadd, 1) := by decide +kernel
theorem dX6_storm_41 : decode cX6_storm 41 = .ok (.iconst 1, 1) := by decide +kernel
theorem dX6_storm_42 : decode cX6_storm 42 = .ok (.isub, 1) := by decide +kernel
theorem dX6_storm_43 : decode cX6_storm 43 = .ok (.bipush 99, 2) := by decide +kernel
theorem dX6_storm_45 : decode cX6_storm 45 = .ok (.if_icmp .le 6, 3) := by decide +kernel
theorem dX6_storm_48 : decode cX6_storm 48 = .ok (.bipush (-2), 2) := by decide +kernel
theorem dX6_storm_50 : decode cX6_storm 50 = .ok (.ireturn, 1) := by decide +kernel
theorem dX6_storm_51 : decode cX6_storm 51 = .ok (.aload_n 0, 1) := by decide +kernel
theorem dX6_storm_52 : decode cX6_storm 52 = .ok (.getfield 47, 3) := by decide +kernel
theorem dX6_storm_55 : decode cX6_storm 55 = .ok (.aload_n 0, 1) := by decide +kernel
theorem dX6_storm_56 : decode cX6_storm 56 = .ok (.getfield 26, 3) := by decide +kernel
theorem dX6_storm_59 : decode cX6_storm 59 = .ok (.invokevirtual 185, 3) := by decide +kernel
theorem dX6_storm_62 : decode cX6_storm 62 = .ok (.aload_n 0, 1) := by decide +kernel
theorem dX6_storm_63 : decode cX6_storm 63 = .ok (.getfield 47, 3) := by decide +kernel
theorem dX6_storm_66 : decode cX6_storm 66 = .ok (.iload_n 1, 1) := by decide +kernel
theorem dX6_storm_67 : decode cX6_storm 67 = .ok (.iload_n 2, 1) := by decide +kernel
theorem dX6_storm_68 : decode cX6_storm 68 = .ok (.invokevirtual 249, 3) := by decide +kernel
theorem dX6_storm_71 : decode cX6_storm 71 = .ok (.iload_n 3, 1) := by decide +kernel
theorem dX6_storm_72 : decode cX6_storm 72 = .ok (.ifCond .ne 18, 3) := by decide +kernel
theorem dX6_storm_75 : decode cX6_storm 75 = .ok (.aload_n 0, 1) := by decide +kernel
theorem dX6_storm_76 : decode cX6_storm 76 = .ok (.getfield 19, 3) := by decide +kernel
theorem dX6_storm_79 : decode cX6_storm 79 = .ok (.aload_n 0, 1) := by decide +kernel
theorem dX6_storm_80 : decode cX6_storm 80 = .ok (.getfield 47, 3) := by decide +kernel
theorem dX6_storm_83 : decode cX6_storm 83 = .ok (.getfield 191, 3) := by decide +kernel
theorem dX6_storm_86 : decode cX6_storm 86 = .ok (.invokevirtual 194, 3) := by decide +kernel
theorem dX6_storm_89 : decode cX6_storm 89 = .ok (.ireturn, 1) := by decide +kernel
theorem dX6_storm_90 : decode cX6_storm 90 = .ok (.aload_n 0, 1) := by decide +kernel
theorem dX6_storm_91 : decode cX6_storm 91 = .ok (.getfield 19, 3) := by decide +kernel
theorem dX6_storm_94 : decode cX6_storm 94 = .ok (.aload_n 0, 1) := by decide +kernel
theorem dX6_storm_95 : decode cX6_storm 95 = .ok (.getfield 47, 3) := by decide +kernel
theorem dX6_storm_98 : decode cX6_storm 98 = .ok (.getfield 191, 3) := by decide +kernel
theorem dX6_storm_101 : decode cX6_storm 101 = .ok (.getfield 221, 3) := by decide +kernel
theorem dX6_storm_104 : decode cX6_storm 104 = .ok (.aload_n 0, 1) := by decide +kernel
theorem dX6_storm_105 : decode cX6_storm 105 = .ok (.getfield 26, 3) := by decide +kernel
theorem dX6_storm_108 : decode cX6_storm 108 = .ok (.getfield 221, 3) := by decide +kernel
theorem dX6_storm_111 : decode cX6_storm 111 = .ok (.iconst (-1), 1) := by decide +kernel
theorem dX6_storm_112 : decode cX6_storm 112 = .ok (.ixor, 1) := by decide +kernel
theorem dX6_storm_113 : decode cX6_storm 113 = .ok (.iand, 1) := by decide +kernel
theorem dX6_storm_114 : decode cX6_storm 114 = .ok (.invokevirtual 224, 3) := by decide +kernel
theorem dX6_storm_117 : decode cX6_storm 117 = .ok (.ireturn, 1) := by decide +kernel
theorem dX6_keep_0 : decode cX6_keep 0 = .ok (.aload_n 0, 1) := by decide +kernel
theorem dX6_keep_1 : decode cX6_keep 1 = .ok (.getfield 39, 3) := by decide +kernel
theorem dX6_keep_4 : decode cX6_keep 4 = .ok (.invokevirtual 252, 3) := by decide +kernel
theorem dX6_keep_7 : decode cX6_keep 7 = .ok (.ifCond .eq 6, 3) := by decide +kernel
theorem dX6_keep_10 : decode cX6_keep 10 = .ok (.bipush (-3), 2) := by decide +kernel
theorem dX6_keep_12 : decode cX6_keep 12 = .ok (.ireturn, 1) := by decide +kernel
theorem dX6_keep_13 : decode cX6_keep 13 = .ok (.aload_n 0, 1) := by decide +kernel
theorem dX6_keep_14 : decode cX6_keep 14 = .ok (.getfield 39, 3) := by decide +kernel
theorem dX6_keep_17 : decode cX6_keep 17 = .ok (.aload_n 0, 1) := by decide +kernel
theorem dX6_keep_18 : decode cX6_keep 18 = .ok (.getfield 26, 3) := by decide +kernel
theorem dX6_keep_21 : decode cX6_keep 21 = .ok (.invokevirtual 159, 3) := by decide +kernel
theorem dX6_keep_24 : decode cX6_keep 24 = .ok (.aload_n 0, 1) := by decide +kernel
theorem dX6_keep_25 : decode cX6_keep 25 = .ok (.getfield 39, 3) := by decide +kernel
theorem dX6_keep_28 : decode cX6_keep 28 = .ok (.getfield 179, 3) := by decide +kernel
theorem dX6_keep_31 : decode cX6_keep 31 = .ok (.ireturn, 1) := by decide +kernel
theorem dX6_back_0 : decode cX6_back 0 = .ok (.aload_n 0, 1) := by decide +kernel
theorem dX6_back_1 : decode cX6_back 1 = .ok (.getfield 39, 3) := by decide +kernel
theorem dX6_back_4 : decode cX6_back 4 = .ok (.getfield 179, 3) := by decide +kernel
theorem dX6_back_7 : decode cX6_back 7 = .ok (.ifCond .ne 6, 3) := by decide +kernel
theorem dX6_back_10 : decode cX6_back 10 = .ok (.bipush (-2), 2) := by decide +kernel
theorem dX6_back_12 : decode cX6_back 12 = .ok (.ireturn, 1) := by decide +kernel
theorem dX6_back_13 : decode cX6_back 13 = .ok (.aload_n 0, 1) := by decide +kernel
theorem dX6_back_14 : decode cX6_back 14 = .ok (.getfield 39, 3) := by decide +kernel
theorem dX6_back_17 : decode cX6_back 17 = .ok (.aload_n 0, 1) := by decide +kernel
theorem dX6_back_18 : decode cX6_back 18 = .ok (.getfield 26, 3) := by decide +kernel
theorem dX6_back_21 : decode cX6_back 21 = .ok (.invokevirtual 182, 3) := by decide +kernel
theorem dX6_back_24 : decode cX6_back 24 = .ok (.aload_n 0, 1) := by decide +kernel
theorem dX6_back_25 : decode cX6_back 25 = .ok (.getfield 35, 3) := by decide +kernel
theorem dX6_back_28 : decode cX6_back 28 = .ok (.invokevirtual 91, 3) := by decide +kernel
theorem dX6_back_31 : decode cX6_back 31 = .ok (.aload_n 0, 1) := by decide +kernel
theorem dX6_back_32 : decode cX6_back 32 = .ok (.getfield 39, 3) := by decide +kernel
theorem dX6_back_35 : decode cX6_back 35 = .ok (.getfield 179, 3) := by decide +kernel
theorem dX6_back_38 : decode cX6_back 38 = .ok (.ireturn, 1) := by decide +kernel
theorem dX6_count_0 : decode cX6_count 0 = .ok (.iload_n 1, 1) := by decide +kernel
theorem dX6_count_1 : decode cX6_count 1 = .ok (.tableswitch 138 0 9 #[55, 63, 71, 79, 87, 95, 103, 114, 122, 130], 55) := by decide +kernel
theorem dX6_count_56 : decode cX6_count 56 = .ok (.aload_n 0, 1) := by decide +kernel
theorem dX6_count_57 : decode cX6_count 57 = .ok (.getfield 19, 3) := by decide +kernel
theorem dX6_count_60 : decode cX6_count 60 = .ok (.getfield 94, 3) := by decide +kernel
theorem dX6_count_63 : decode cX6_count 63 = .ok (.ireturn, 1) := by decide +kernel
theorem dX6_count_64 : decode cX6_count 64 = .ok (.aload_n 0, 1) := by decide +kernel
theorem dX6_count_65 : decode cX6_count 65 = .ok (.getfield 19, 3) := by decide +kernel
theorem dX6_count_68 : decode cX6_count 68 = .ok (.getfield 227, 3) := by decide +kernel
theorem dX6_count_71 : decode cX6_count 71 = .ok (.ireturn, 1) := by decide +kernel
theorem dX6_count_72 : decode cX6_count 72 = .ok (.aload_n 0, 1) := by decide +kernel
theorem dX6_count_73 : decode cX6_count 73 = .ok (.getfield 26, 3) := by decide +kernel
theorem dX6_count_76 : decode cX6_count 76 = .ok (.getfield 114, 3) := by decide +kernel
theorem dX6_count_79 : decode cX6_count 79 = .ok (.ireturn, 1) := by decide +kernel
theorem dX6_count_80 : decode cX6_count 80 = .ok (.aload_n 0, 1) := by decide +kernel
theorem dX6_count_81 : decode cX6_count 81 = .ok (.getfield 19, 3) := by decide +kernel
theorem dX6_count_84 : decode cX6_count 84 = .ok (.getfield 234, 3) := by decide +kernel
theorem dX6_count_87 : decode cX6_count 87 = .ok (.ireturn, 1) := by decide +kernel
theorem dX6_count_88 : decode cX6_count 88 = .ok (.aload_n 0, 1) := by decide +kernel
theorem dX6_count_89 : decode cX6_count 89 = .ok (.getfield 19, 3) := by decide +kernel
theorem dX6_count_92 : decode cX6_count 92 = .ok (.getfield 253, 3) := by decide +kernel
theorem dX6_count_95 : decode cX6_count 95 = .ok (.ireturn, 1) := by decide +kernel
theorem dX6_count_96 : decode cX6_count 96 = .ok (.aload_n 0, 1) := by decide +kernel
theorem dX6_count_97 : decode cX6_count 97 = .ok (.getfield 19, 3) := by decide +kernel
theorem dX6_count_100 : decode cX6_count 100 = .ok (.getfield 256, 3) := by decide +kernel
theorem dX6_count_103 : decode cX6_count 103 = .ok (.ireturn, 1) := by decide +kernel
theorem dX6_count_104 : decode cX6_count 104 = .ok (.aload_n 0, 1) := by decide +kernel
theorem dX6_count_105 : decode cX6_count 105 = .ok (.getfield 26, 3) := by decide +kernel
theorem dX6_count_108 : decode cX6_count 108 = .ok (.getfield 221, 3) := by decide +kernel
theorem dX6_count_111 : decode cX6_count 111 = .ok (.invokestatic 259, 3) := by decide +kernel
theorem dX6_count_114 : decode cX6_count 114 = .ok (.ireturn, 1) := by decide +kernel
theorem dX6_count_115 : decode cX6_count 115 = .ok (.aload_n 0, 1) := by decide +kernel
theorem dX6_count_116 : decode cX6_count 116 = .ok (.getfield 35, 3) := by decide +kernel
theorem dX6_count_119 : decode cX6_count 119 = .ok (.getfield 179, 3) := by decide +kernel
theorem dX6_count_122 : decode cX6_count 122 = .ok (.ireturn, 1) := by decide +kernel
theorem dX6_count_123 : decode cX6_count 123 = .ok (.aload_n 0, 1) := by decide +kernel
theorem dX6_count_124 : decode cX6_count 124 = .ok (.getfield 39, 3) := by decide +kernel
theorem dX6_count_127 : decode cX6_count 127 = .ok (.getfield 179, 3) := by decide +kernel
theorem dX6_count_130 : decode cX6_count 130 = .ok (.ireturn, 1) := by decide +kernel
theorem dX6_count_131 : decode cX6_count 131 = .ok (.aload_n 0, 1) := by decide +kernel
theorem dX6_count_132 : decode cX6_count 132 = .ok (.getfield 10, 3) := by decide +kernel
theorem dX6_count_135 : decode cX6_count 135 = .ok (.getfield 68, 3) := by decide +kernel
theorem dX6_count_138 : decode cX6_count 138 = .ok (.ireturn, 1) := by decide +kernel
theorem dX6_count_139 : decode cX6_count 139 = .ok (.iconst (-1), 1) := by decide +kernel
theorem dX6_count_140 : decode cX6_count 140 = .ok (.ireturn, 1) := by decide +kernel
theorem dX6_isWithin_0 : decode cX6_isWithin 0 = .ok (.iload_n 0, 1) := by decide +kernel
theorem dX6_isWithin_1 : decode cX6_isWithin 1 = .ok (.iload_n 1, 1) := by decide +kernel
theorem dX6_isWithin_2 : decode cX6_isWithin 2 = .ok (.if_icmp .lt 12, 3) := by decide +kernel
theorem dX6_isWithin_5 : decode cX6_isWithin 5 = .ok (.iload_n 0, 1) := by decide +kernel
theorem dX6_isWithin_6 : decode cX6_isWithin 6 = .ok (.iload_n 2, 1) := by decide +kernel
theorem dX6_isWithin_7 : decode cX6_isWithin 7 = .ok (.if_icmp .gt 7, 3) := by decide +kernel
theorem dX6_isWithin_10 : decode cX6_isWithin 10 = .ok (.iconst 1, 1) := by decide +kernel
theorem dX6_isWithin_11 : decode cX6_isWithin 11 = .ok (.goto 4, 3) := by decide +kernel
theorem dX6_isWithin_14 : decode cX6_isWithin 14 = .ok (.iconst 0, 1) := by decide +kernel
theorem dX6_isWithin_15 : decode cX6_isWithin 15 = .ok (.ireturn, 1) := by decide +kernel
theorem dX6_bit_0 : decode cX6_bit 0 = .ok (.iload_n 0, 1) := by decide +kernel
theorem dX6_bit_1 : decode cX6_bit 1 = .ok (.ifCond .eq 7, 3) := by decide +kernel
theorem dX6_bit_4 : decode cX6_bit 4 = .ok (.iconst 1, 1) := by decide +kernel
theorem dX6_bit_5 : decode cX6_bit 5 = .ok (.goto 4, 3) := by decide +kernel
theorem dX6_bit_8 : decode cX6_bit 8 = .ok (.iconst 0, 1) := by decide +kernel
theorem dX6_bit_9 : decode cX6_bit 9 = .ok (.ireturn, 1) := by decide +kernel
theorem dX6_commonWithTen_0 : decode cX6_commonWithTen 0 = .ok (.bipush 10, 2) := by decide +kernel
theorem dX6_commonWithTen_2 : decode cX6_commonWithTen 2 = .ok (.istore_n 1, 1) := by decide +kernel
theorem dX6_commonWithTen_3 : decode cX6_commonWithTen 3 = .ok (.iload_n 1, 1) := by decide +kernel
theorem dX6_commonWithTen_4 : decode cX6_commonWithTen 4 = .ok (.iconst 1, 1) := by decide +kernel
theorem dX6_commonWithTen_5 : decode cX6_commonWithTen 5 = .ok (.if_icmp .le 24, 3) := by decide +kernel
theorem dX6_commonWithTen_8 : decode cX6_commonWithTen 8 = .ok (.bipush 10, 2) := by decide +kernel
theorem dX6_commonWithTen_10 : decode cX6_commonWithTen 10 = .ok (.iload_n 1, 1) := by decide +kernel
theorem dX6_commonWithTen_11 : decode cX6_commonWithTen 11 = .ok (.irem, 1) := by decide +kernel
theorem dX6_commonWithTen_12 : decode cX6_commonWithTen 12 = .ok (.ifCond .ne 11, 3) := by decide +kernel
theorem dX6_commonWithTen_15 : decode cX6_commonWithTen 15 = .ok (.iload_n 0, 1) := by decide +kernel
theorem dX6_commonWithTen_16 : decode cX6_commonWithTen 16 = .ok (.iload_n 1, 1) := by decide +kernel
theorem dX6_commonWithTen_17 : decode cX6_commonWithTen 17 = .ok (.irem, 1) := by decide +kernel
theorem dX6_commonWithTen_18 : decode cX6_commonWithTen 18 = .ok (.ifCond .ne 5, 3) := by decide +kernel
theorem dX6_commonWithTen_21 : decode cX6_commonWithTen 21 = .ok (.iload_n 1, 1) := by decide +kernel
theorem dX6_commonWithTen_22 : decode cX6_commonWithTen 22 = .ok (.ireturn, 1) := by decide +kernel
theorem dX6_commonWithTen_23 : decode cX6_commonWithTen 23 = .ok (.iinc 1 (-1), 3) := by decide +kernel
theorem dX6_commonWithTen_26 : decode cX6_commonWithTen 26 = .ok (.goto (-23), 3) := by decide +kernel
theorem dX6_commonWithTen_29 : decode cX6_commonWithTen 29 = .ok (.iconst 1, 1) := by decide +kernel
theorem dX6_commonWithTen_30 : decode cX6_commonWithTen 30 = .ok (.ireturn, 1) := by decide +kernel
theorem dX7_init_0 : decode cX7_init 0 = .ok (.aload_n 0, 1) := by decide +kernel
theorem dX7_init_1 : decode cX7_init 1 = .ok (.invokespecial 1, 3) := by decide +kernel
theorem dX7_init_4 : decode cX7_init 4 = .ok (.aload_n 0, 1) := by decide +kernel
theorem dX7_init_5 : decode cX7_init 5 = .ok (.sipush 200, 3) := by decide +kernel
theorem dX7_init_8 : decode cX7_init 8 = .ok (.newarray .int, 2) := by decide +kernel
theorem dX7_init_10 : decode cX7_init 10 = .ok (.putfield 7, 3) := by decide +kernel
theorem dX7_init_13 : decode cX7_init 13 = .ok (.aload_n 0, 1) := by decide +kernel
theorem dX7_init_14 : decode cX7_init 14 = .ok (.bipush 37, 2) := by decide +kernel
theorem dX7_init_16 : decode cX7_init 16 = .ok (.newarray .int, 2) := by decide +kernel
theorem dX7_init_18 : decode cX7_init 18 = .ok (.putfield 13, 3) := by decide +kernel
theorem dX7_init_21 : decode cX7_init 21 = .ok (.aload_n 0, 1) := by decide +kernel
theorem dX7_init_22 : decode cX7_init 22 = .ok (.bipush 37, 2) := by decide +kernel
theorem dX7_init_24 : decode cX7_init 24 = .ok (.newarray .int, 2) := by decide +kernel
theorem dX7_init_26 : decode cX7_init 26 = .ok (.putfield 16, 3) := by decide +kernel
theorem dX7_init_29 : decode cX7_init 29 = .ok (.aload_n 0, 1) := by decide +kernel
theorem dX7_init_30 : decode cX7_init 30 = .ok (.bipush 29, 2) := by decide +kernel
theorem dX7_init_32 : decode cX7_init 32 = .ok (.newarray .int, 2) := by decide +kernel
theorem dX7_init_34 : decode cX7_init 34 = .ok (.putfield 19, 3) := by decide +kernel
theorem dX7_init_37 : decode cX7_init 37 = .ok (.aload_n 0, 1) := by decide +kernel
theorem dX7_init_38 : decode cX7_init 38 = .ok (.bipush 29, 2) := by decide +kernel
theorem dX7_init_40 : decode cX7_init 40 = .ok (.newarray .int, 2) := by decide +kernel
theorem dX7_init_42 : decode cX7_init 42 = .ok (.putfield 22, 3) := by decide +kernel
theorem dX7_init_45 : decode cX7_init 45 = .ok (.aload_n 0, 1) := by decide +kernel
theorem dX7_init_46 : decode cX7_init 46 = .ok (.sipush 232, 3) := by decide +kernel
theorem dX7_init_49 : decode cX7_init 49 = .ok (.newarray .int, 2) := by decide +kernel
theorem dX7_init_51 : decode cX7_init 51 = .ok (.putfield 25, 3) := by decide +kernel
theorem dX7_init_54 : decode cX7_init 54 = .ok (.aload_n 0, 1) := by decide +kernel
theorem dX7_init_55 : decode cX7_init 55 = .ok (.bipush 58, 2) := by decide +kernel
theorem dX7_init_57 : decode cX7_init 57 = .ok (.newarray .int, 2) := by decide +kernel
theorem dX7_init_59 : decode cX7_init 59 = .ok (.putfield 28, 3) := by decide +kernel
theorem dX7_init_62 : decode cX7_init 62 = .ok (.aload_n 0, 1) := by decide +kernel
theorem dX7_init_63 : decode cX7_init 63 = .ok (.bipush 29, 2) := by decide +kernel
theorem dX7_init_65 : decode cX7_init 65 = .ok (.newarray .int, 2) := by decide +kernel
theorem dX7_init_67 : decode cX7_init 67 = .ok (.putfield 31, 3) := by decide +kernel
theorem dX7_init_70 : decode cX7_init 70 = .ok (.aload_n 0, 1) := by decide +kernel
theorem dX7_init_71 : decode cX7_init 71 = .ok (.iconst 4, 1) := by decide +kernel
theorem dX7_init_72 : decode cX7_init 72 = .ok (.newarray .int, 2) := by decide +kernel
theorem dX7_init_74 : decode cX7_init 74 = .ok (.putfield 34, 3) := by decide +kernel
theorem dX7_init_77 : decode cX7_init 77 = .ok (.aload_n 0, 1) := by decide +kernel
theorem dX7_init_78 : decode cX7_init 78 = .ok (.bipush 8, 2) := by decide +kernel
theorem dX7_init_80 : decode cX7_init 80 = .ok (.newarray .int, 2) := by decide +kernel
theorem dX7_init_82 : decode cX7_init 82 = .ok (.putfield 37, 3) := by decide +kernel
theorem dX7_init_85 : decode cX7_init 85 = .ok (.aload_n 0, 1) := by decide +kernel
theorem dX7_init_86 : decode cX7_init 86 = .ok (.invokevirtual 40, 3) := by decide +kernel
theorem dX7_init_89 : decode cX7_init 89 = .ok (.aload_n 0, 1) := by decide +kernel
theorem dX7_init_90 : decode cX7_init 90 = .ok (.iconst 0, 1) := by decide +kernel
theorem dX7_init_91 : decode cX7_init 91 = .ok (.bipush 6, 2) := by decide +kernel
theorem dX7_init_93 : decode cX7_init 93 = .ok (.iconst 4, 1) := by decide +kernel
theorem dX7_init_94 : decode cX7_init 94 = .ok (.iconst 0, 1) := by decide +kernel
theorem dX7_init_95 : decode cX7_init 95 = .ok (.invokevirtual 43, 3) := by decide +kernel
theorem dX7_init_98 : decode cX7_init 98 = .ok (.aload_n 0, 1) := by decide +kernel
theorem dX7_init_99 : decode cX7_init 99 = .ok (.iconst 0, 1) := by decide +kernel
theorem dX7_init_100 : decode cX7_init 100 = .ok (.bipush 9, 2) := by decide +kernel
theorem dX7_init_102 : decode cX7_init 102 = .ok (.bipush 7, 2) := by decide +kernel
theorem dX7_init_104 : decode cX7_init 104 = .ok (.iconst 2, 1) := by decide +kernel
theorem dX7_init_105 : decode cX7_init 105 = .ok (.invokevirtual 43, 3) := by decide +kernel
theorem dX7_init_108 : decode cX7_init 108 = .ok (.aload_n 0, 1) := by decide +kernel
theorem dX7_init_109 : decode cX7_init 109 = .ok (.iconst 1, 1) := by decide +kernel
theorem dX7_init_110 : decode cX7_init 110 = .ok (.iconst 5, 1) := by decide +kernel
theorem dX7_init_111 : decode cX7_init 111 = .ok (.bipush 9, 2) := by decide +kernel
theorem dX7_init_113 : decode cX7_init 113 = .ok (.iconst 0, 1) := by decide +kernel
theorem dX7_init_114 : decode cX7_init 114 = .ok (.invokevirtual 43, 3) := by decide +kernel
theorem dX7_init_117 : decode cX7_init 117 = .ok (.aload_n 0, 1) := by decide +kernel
theorem dX7_init_118 : decode cX7_init 118 = .ok (.iconst 2, 1) := by decide +kernel
theorem dX7_init_119 : decode cX7_init 119 = .ok (.iconst 4, 1) := by decide +kernel
theorem dX7_init_120 : decode cX7_init 120 = .ok (.iconst 5, 1) := by decide +kernel
theorem dX7_init_121 : decode cX7_init 121 = .ok (.iconst 1, 1) := by decide +kernel
theorem dX7_init_122 : decode cX7_init 122 = .ok (.invokevirtual 43, 3) := by decide +kernel
theorem dX7_init_125 : decode cX7_init 125 = .ok (.aload_n 0, 1) := by decide +kernel
theorem dX7_init_126 : decode cX7_init 126 = .ok (.iconst 3, 1) := by decide +kernel
theorem dX7_init_127 : decode cX7_init 127 = .ok (.bipush 15, 2) := by decide +kernel
theorem dX7_init_129 : decode cX7_init 129 = .ok (.iconst 3, 1) := by decide +kernel
theorem dX7_init_130 : decode cX7_init 130 = .ok (.iconst 4, 1) := by decide +kernel
theorem dX7_init_131 : decode cX7_init 131 = .ok (.invokevirtual 43, 3) := by decide +kernel
theorem dX7_init_134 : decode cX7_init 134 = .ok (.aload_n 0, 1) := by decide +kernel
theorem dX7_init_135 : decode cX7_init 135 = .ok (.iconst 0, 1) := by decide +kernel
theorem dX7_init_136 : decode cX7_init 136 = .ok (.bipush 12, 2) := by decide +kernel
theorem dX7_init_138 : decode cX7_init 138 = .ok (.bipush 6, 2) := by decide +kernel
theorem dX7_init_140 : decode cX7_init 140 = .ok (.bipush 8, 2) := by decide +kernel
theorem dX7_init_142 : decode cX7_init 142 = .ok (.invokevirtual 43, 3) := by decide +kernel
theorem dX7_init_145 : decode cX7_init 145 = .ok (.aload_n 0, 1) := by decide +kernel
theorem dX7_init_146 : decode cX7_init 146 = .ok (.bipush 6, 2) := by decide +kernel
theorem dX7_init_148 : decode cX7_init 148 = .ok (.bipush 8, 2) := by decide +kernel
theorem dX7_init_150 : decode cX7_init 150 = .ok (.bipush 9, 2) := by decide +kernel
theorem dX7_init_152 : decode cX7_init 152 = .ok (.invokevirtual 47, 3) := by decide +kernel
theorem dX7_init_155 : decode cX7_init 155 = .ok (.aload_n 0, 1) := by decide +kernel
theorem dX7_init_156 : decode cX7_init 156 = .ok (.bipush 10, 2) := by decide +kernel
theorem dX7_init_158 : decode cX7_init 158 = .ok (.bipush 6, 2) := by decide +kernel
theorem dX7_init_160 : decode cX7_init 160 = .ok (.bipush 12, 2) := by decide +kernel
theorem dX7_init_162 : decode cX7_init 162 = .ok (.invokevirtual 47, 3) := by decide +kernel
theorem dX7_init_165 : decode cX7_init 165 = .ok (.aload_n 0, 1) := by decide +kernel
theorem dX7_init_166 : decode cX7_init 166 = .ok (.bipush 7, 2) := by decide +kernel
theorem dX7_init_168 : decode cX7_init 168 = .ok (.bipush 9, 2) := by decide +kernel
theorem dX7_init_170 : decode cX7_init 170 = .ok (.bipush 6, 2) := by decide +kernel
theorem dX7_init_172 : decode cX7_init 172 = .ok (.invokevirtual 47, 3) := by decide +kernel
theorem dX7_init_175 : decode cX7_init 175 = .ok (.aload_n 0, 1) := by decide +kernel
theorem dX7_init_176 : decode cX7_init 176 = .ok (.getfield 16, 3) := by decide +kernel
theorem dX7_init_179 : decode cX7_init 179 = .ok (.iconst 2, 1) := by decide +kernel
theorem dX7_init_180 : decode cX7_init 180 = .ok (.bipush 8, 2) := by decide +kernel
theorem dX7_init_182 : decode cX7_init 182 = .ok (.iastore, 1) := by decide +kernel
theorem dX7_init_183 : decode cX7_init 183 = .ok (.aload_n 0, 1) := by decide +kernel
theorem dX7_init_184 : decode cX7_init 184 = .ok (.getfield 16, 3) := by decide +kernel
theorem dX7_init_187 : decode cX7_init 187 = .ok (.iconst 3, 1) := by decide +kernel
theorem dX7_init_188 : decode cX7_init 188 = .ok (.iconst 3, 1) := by decide +kernel
theorem dX7_init_189 : decode cX7_init 189 = .ok (.iastore, 1) := by decide +kernel
theorem dX7_init_190 : decode cX7_init 190 = .ok (.aload_n 0, 1) := by decide +kernel
theorem dX7_init_191 : decode cX7_init 191 = .ok (.getfield 16, 3) := by decide +kernel
theorem dX7_init_194 : decode cX7_init 194 = .ok (.iconst 4, 1) := by decide +kernel
theorem dX7_init_195 : decode cX7_init 195 = .ok (.bipush 6, 2) := by decide +kernel
theorem dX7_init_197 : decode cX7_init 197 = .ok (.iastore, 1) := by decide +kernel
theorem dX7_init_198 : decode cX7_init 198 = .ok (.aload_n 0, 1) := by decide +kernel
theorem dX7_init_199 : decode cX7_init 199 = .ok (.invokevirtual 51, 3) := by decide +kernel
theorem dX7_init_202 : decode cX7_init 202 = .ok (.return_, 1) := by decide +kernel
theorem dX7_in_0 : decode cX7_in 0 = .ok (.iload_n 0, 1) := by decide +kernel
theorem dX7_in_1 : decode cX7_in 1 = .ok (.iload_n 1, 1) := by decide +kernel
theorem dX7_in_2 : decode cX7_in 2 = .ok (.if_icmp .lt 12, 3) := by decide +kernel
theorem dX7_in_5 : decode cX7_in 5 = .ok (.iload_n 0, 1) := by decide +kernel
theorem dX7_in_6 : decode cX7_in 6 = .ok (.iload_n 2, 1) := by decide +kernel
theorem dX7_in_7 : decode cX7_in 7 = .ok (.if_icmp .gt 7, 3) := by decide +kernel
theorem dX7_in_10 : decode cX7_in 10 = .ok (.iconst 1, 1) := by decide +kernel
theorem dX7_in_11 : decode cX7_in 11 = .ok (.goto 4, 3) := by decide +kernel
theorem dX7_in_14 : decode cX7_in 14 = .ok (.iconst 0, 1) := by decide +kernel
theorem dX7_in_15 : decode cX7_in 15 = .ok (.ireturn, 1) := by decide +kernel
theorem dX7_isBough_0 : decode cX7_isBough 0 = .ok (.iload_n 1, 1) := by decide +kernel
theorem dX7_isBough_1 : decode cX7_isBough 1 = .ok (.iconst 0, 1) := by decide +kernel
theorem dX7_isBough_2 : decode cX7_isBough 2 = .ok (.aload_n 0, 1) := by decide +kernel
theorem dX7_isBough_3 : decode cX7_isBough 3 = .ok (.getfield 13, 3) := by decide +kernel
theorem dX7_isBough_6 : decode cX7_isBough 6 = .ok (.iconst 0, 1) := by decide +kernel
theorem dX7_isBough_7 : decode cX7_isBough 7 = .ok (.iaload, 1) := by decide +kernel
theorem dX7_isBough_8 : decode cX7_isBough 8 = .ok (.iconst 1, 1) := by decide +kernel
theorem dX7_isBough_9 : decode cX7_isBough 9 = .ok (.isub, 1) := by decide +kernel
theorem dX7_isBough_10 : decode cX7_isBough 10 = .ok (.invokestatic 54, 3) := by decide +kernel
theorem dX7_isBough_13 : decode cX7_isBough 13 = .ok (.ireturn, 1) := by decide +kernel
theorem dX7_isTenant_0 : decode cX7_isTenant 0 = .ok (.iload_n 1, 1) := by decide +kernel
theorem dX7_isTenant_1 : decode cX7_isTenant 1 = .ok (.iconst 0, 1) := by decide +kernel
theorem dX7_isTenant_2 : decode cX7_isTenant 2 = .ok (.aload_n 0, 1) := by decide +kernel
theorem dX7_isTenant_3 : decode cX7_isTenant 3 = .ok (.getfield 13, 3) := by decide +kernel
theorem dX7_isTenant_6 : decode cX7_isTenant 6 = .ok (.iconst 1, 1) := by decide +kernel
theorem dX7_isTenant_7 : decode cX7_isTenant 7 = .ok (.iaload, 1) := by decide +kernel
theorem dX7_isTenant_8 : decode cX7_isTenant 8 = .ok (.iconst 1, 1) := by decide +kernel
theorem dX7_isTenant_9 : decode cX7_isTenant 9 = .ok (.isub, 1) := by decide +kernel
theorem dX7_isTenant_10 : decode cX7_isTenant 10 = .ok (.invokestatic 54, 3) := by decide +kernel
theorem dX7_isTenant_13 : decode cX7_isTenant 13 = .ok (.ireturn, 1) := by decide +kernel
theorem dX7_write_0 : decode cX7_write 0 = .ok (.iload_n 1, 1) := by decide +kernel
theorem dX7_write_1 : decode cX7_write 1 = .ok (.bipush 32, 2) := by decide +kernel
theorem dX7_write_3 : decode cX7_write 3 = .ok (.bipush 126, 2) := by decide +kernel
theorem dX7_write_5 : decode cX7_write 5 = .ok (.invokestatic 54, 3) := by decide +kernel
theorem dX7_write_8 : decode cX7_write 8 = .ok (.ifCond .ne 5, 3) := by decide +kernel
theorem dX7_write_11 : decode cX7_write 11 = .ok (.iconst (-1), 1) := by decide +kernel
theorem dX7_write_12 : decode cX7_write 12 = .ok (.ireturn, 1) := by decide +kernel
theorem dX7_write_13 : decode cX7_write 13 = .ok (.aload_n 0, 1) := by decide +kernel
theorem dX7_write_14 : decode cX7_write 14 = .ok (.getfield 58, 3) := by decide +kernel
theorem dX7_write_17 : decode cX7_write 17 = .ok (.sipush 200, 3) := by decide +kernel
theorem dX7_write_20 : decode cX7_write 20 = .ok (.if_icmp .ne 6, 3) := by decide +kernel
theorem dX7_write_23 : decode cX7_write 23 = .ok (.bipush (-3), 2) := by decide +kernel
theorem dX7_write_25 : decode cX7_write 25 = .ok (.ireturn, 1) := by decide +kernel
theorem dX7_write_26 : decode cX7_write 26 = .ok (.aload_n 0, 1) := by decide +kernel
theorem dX7_write_27 : decode cX7_write 27 = .ok (.getfield 7, 3) := by decide +kernel
theorem dX7_write_30 : decode cX7_write 30 = .ok (.aload_n 0, 1) := by decide +kernel
theorem dX7_write_31 : decode cX7_write 31 = .ok (.getfield 58, 3) := by decide +kernel
theorem dX7_write_34 : decode cX7_write 34 = .ok (.iload_n 1, 1) := by decide +kernel
theorem dX7_write_35 : decode cX7_write 35 = .ok (.iastore, 1) := by decide +kernel
theorem dX7_write_36 : decode cX7_write 36 = .ok (.aload_n 0, 1) := by decide +kernel
theorem dX7_write_37 : decode cX7_write 37 = .ok (.dup, 1) := by decide +kernel
theorem dX7_write_38 : decode cX7_write 38 = .ok (.getfield 58, 3) := by decide +kernel
theorem dX7_write_41 : decode cX7_write 41 = .ok (.iconst 1, 1) := by decide +kernel
theorem dX7_write_42 : decode cX7_write 42 = .ok (.iadd, 1) := by decide +kernel
theorem dX7_write_43 : decode cX7_write 43 = .ok (.putfield 58, 3) := by decide +kernel
theorem dX7_write_46 : decode cX7_write 46 = .ok (.aload_n 0, 1) := by decide +kernel
theorem dX7_write_47 : decode cX7_write 47 = .ok (.getfield 58, 3) := by decide +kernel
theorem dX7_write_50 : decode cX7_write 50 = .ok (.ireturn, 1) := by decide +kernel
theorem dX7_wipe_0 : decode cX7_wipe 0 = .ok (.aload_n 0, 1) := by decide +kernel
theorem dX7_wipe_1 : decode cX7_wipe 1 = .ok (.getfield 58, 3) := by decide +kernel
theorem dX7_wipe_4 : decode cX7_wipe 4 = .ok (.istore_n 1, 1) := by decide +kernel
theorem dX7_wipe_5 : decode cX7_wipe 5 = .ok (.aload_n 0, 1) := by decide +kernel
theorem dX7_wipe_6 : decode cX7_wipe 6 = .ok (.iconst 0, 1) := by decide +kernel
theorem dX7_wipe_7 : decode cX7_wipe 7 = .ok (.putfield 58, 3) := by decide +kernel
theorem dX7_wipe_10 : decode cX7_wipe 10 = .ok (.iload_n 1, 1) := by decide +kernel
theorem dX7_wipe_11 : decode cX7_wipe 11 = .ok (.ireturn, 1) := by decide +kernel
theorem dX7_letterAt_0 : decode cX7_letterAt 0 = .ok (.iload_n 1, 1) := by decide +kernel
theorem dX7_letterAt_1 : decode cX7_letterAt 1 = .ok (.aload_n 0, 1) := by decide +kernel
theorem dX7_letterAt_2 : decode cX7_letterAt 2 = .ok (.getfield 58, 3) := by decide +kernel
theorem dX7_letterAt_5 : decode cX7_letterAt 5 = .ok (.if_icmp .ge 12, 3) := by decide +kernel
theorem dX7_letterAt_8 : decode cX7_letterAt 8 = .ok (.aload_n 0, 1) := by decide +kernel
theorem dX7_letterAt_9 : decode cX7_letterAt 9 = .ok (.getfield 7, 3) := by decide +kernel
theorem dX7_letterAt_12 : decode cX7_letterAt 12 = .ok (.iload_n 1, 1) := by decide +kernel
theorem dX7_letterAt_13 : decode cX7_letterAt 13 = .ok (.iaload, 1) := by decide +kernel
theorem dX7_letterAt_14 : decode cX7_letterAt 14 = .ok (.goto 4, 3) := by decide +kernel
theorem dX7_letterAt_17 : decode cX7_letterAt 17 = .ok (.iconst (-1), 1) := by decide +kernel
theorem dX7_letterAt_18 : decode cX7_letterAt 18 = .ok (.ireturn, 1) := by decide +kernel
theorem dX7_isFigure_0 : decode cX7_isFigure 0 = .ok (.iload_n 0, 1) := by decide +kernel
theorem dX7_isFigure_1 : decode cX7_isFigure 1 = .ok (.bipush 48, 2) := by decide +kernel
theorem dX7_isFigure_3 : decode cX7_isFigure 3 = .ok (.bipush 57, 2) := by decide +kernel
theorem dX7_isFigure_5 : decode cX7_isFigure 5 = .ok (.invokestatic 54, 3) := by decide +kernel
theorem dX7_isFigure_8 : decode cX7_isFigure 8 = .ok (.ireturn, 1) := by decide +kernel
theorem dX7_number_0 : decode cX7_number 0 = .ok (.aload_n 0, 1) := by decide +kernel
theorem dX7_number_1 : decode cX7_number 1 = .ok (.aload_n 0, 1) := by decide +kernel
theorem dX7_number_2 : decode cX7_number 2 = .ok (.getfield 62, 3) := by decide +kernel
theorem dX7_number_5 : decode cX7_number 5 = .ok (.invokevirtual 65, 3) := by decide +kernel
theorem dX7_number_8 : decode cX7_number 8 = .ok (.invokestatic 69, 3) := by decide +kernel
theorem dX7_number_11 : decode cX7_number 11 = .ok (.ifCond .ne 5, 3) := by decide +kernel
theorem dX7_number_14 : decode cX7_number 14 = .ok (.iconst (-1), 1) := by decide +kernel
theorem dX7_number_15 : decode cX7_number 15 = .ok (.ireturn, 1) := by decide +kernel
theorem dX7_number_16 : decode cX7_number 16 = .ok (.aload_n 0, 1) := by decide +kernel
theorem dX7_number_17 : decode cX7_number 17 = .ok (.aload_n 0, 1) := by decide +kernel
theorem dX7_number_18 : decode cX7_number 18 = .ok (.getfield 62, 3) := by decide +kernel
theorem dX7_number_21 : decode cX7_number 21 = .ok (.invokevirtual 65, 3) := by decide +kernel
theorem dX7_number_24 : decode cX7_number 24 = .ok (.bipush 48, 2) := by decide +kernel
theorem dX7_number_26 : decode cX7_number 26 = .ok (.isub, 1) := by decide +kernel
theorem dX7_number_27 : decode cX7_number 27 = .ok (.istore 4, 2) := by decide +kernel
theorem dX7_number_29 : decode cX7_number 29 = .ok (.aload_n 0, 1) := by decide +kernel
theorem dX7_number_30 : decode cX7_number 30 = .ok (.dup, 1) := by decide +kernel
theorem dX7_number_31 : decode cX7_number 31 = .ok (.getfield 62, 3) := by decide +kernel
theorem dX7_number_34 : decode cX7_number 34 = .ok (.iconst 1, 1) := by decide +kernel
theorem dX7_number_35 : decode cX7_number 35 = .ok (.iadd, 1) := by decide +kernel
theorem dX7_number_36 : decode cX7_number 36 = .ok (.putfield 62, 3) := by decide +kernel
theorem dX7_number_39 : decode cX7_number 39 = .ok (.aload_n 0, 1) := by decide +kernel
theorem dX7_number_40 : decode cX7_number 40 = .ok (.aload_n 0, 1) := by decide +kernel
theorem dX7_number_41 : decode cX7_number 41 = .ok (.getfield 62, 3) := by decide +kernel
theorem dX7_number_44 : decode cX7_number 44 = .ok (.invokevirtual 65, 3) := by decide +kernel
theorem dX7_number_47 : decode cX7_number 47 = .ok (.invokestatic 69, 3) := by decide +kernel
theorem dX7_number_50 : decode cX7_number 50 = .ok (.ifCond .eq 32, 3) := by decide +kernel
theorem dX7_number_53 : decode cX7_number 53 = .ok (.bipush 10, 2) := by decide +kernel
theorem dX7_number_55 : decode cX7_number 55 = .ok (.iload 4, 2) := by decide +kernel
theorem dX7_number_57 : decode cX7_number 57 = .ok (.imul, 1) := by decide +kernel
theorem dX7_number_58 : decode cX7_number 58 = .ok (.aload_n 0, 1) := by decide +kernel
theorem dX7_number_59 : decode cX7_number 59 = .ok (.aload_n 0, 1) := by decide +kernel
theorem dX7_number_60 : decode cX7_number 60 = .ok (.getfield 62, 3) := by decide +kernel
theorem dX7_number_63 : decode cX7_number 63 = .ok (.invokevirtual 65, 3) := by decide +kernel
theorem dX7_number_66 : decode cX7_number 66 = .ok (.iadd, 1) := by decide +kernel
theorem dX7_number_67 : decode cX7_number 67 = .ok (.bipush 48, 2) := by decide +kernel
theorem dX7_number_69 : decode cX7_number 69 = .ok (.isub, 1) := by decide +kernel
theorem dX7_number_70 : decode cX7_number 70 = .ok (.istore 4, 2) := by decide +kernel
theorem dX7_number_72 : decode cX7_number 72 = .ok (.aload_n 0, 1) := by decide +kernel
theorem dX7_number_73 : decode cX7_number 73 = .ok (.dup, 1) := by decide +kernel
theorem dX7_number_74 : decode cX7_number 74 = .ok (.getfield 62, 3) := by decide +kernel
theorem dX7_number_77 : decode cX7_number 77 = .ok (.iconst 1, 1) := by decide +kernel
theorem dX7_number_78 : decode cX7_number 78 = .ok (.iadd, 1) := by decide +kernel
theorem dX7_number_79 : decode cX7_number 79 = .ok (.putfield 62, 3) := by decide +kernel
theorem dX7_number_82 : decode cX7_number 82 = .ok (.aload_n 0, 1) := by decide +kernel
theorem dX7_number_83 : decode cX7_number 83 = .ok (.aload_n 0, 1) := by decide +kernel
theorem dX7_number_84 : decode cX7_number 84 = .ok (.getfield 62, 3) := by decide +kernel
theorem dX7_number_87 : decode cX7_number 87 = .ok (.invokevirtual 65, 3) := by decide +kernel
theorem dX7_number_90 : decode cX7_number 90 = .ok (.iload_n 3, 1) := by decide +kernel
theorem dX7_number_91 : decode cX7_number 91 = .ok (.if_icmp .ne 17, 3) := by decide +kernel
theorem dX7_number_94 : decode cX7_number 94 = .ok (.iload 4, 2) := by decide +kernel
theorem dX7_number_96 : decode cX7_number 96 = .ok (.iload_n 1, 1) := by decide +kernel
theorem dX7_number_97 : decode cX7_number 97 = .ok (.iload_n 2, 1) := by decide +kernel
theorem dX7_number_98 : decode cX7_number 98 = .ok (.invokestatic 54, 3) := by decide +kernel
theorem dX7_number_101 : decode cX7_number 101 = .ok (.ifCond .eq 7, 3) := by decide +kernel
theorem dX7_number_104 : decode cX7_number 104 = .ok (.iconst 1, 1) := by decide +kernel
theorem dX7_number_105 : decode cX7_number 105 = .ok (.goto 4, 3) := by decide +kernel
theorem dX7_number_108 : decode cX7_number 108 = .ok (.iconst 0, 1) := by decide +kernel
theorem dX7_number_109 : decode cX7_number 109 = .ok (.istore 5, 2) := by decide +kernel
theorem dX7_number_111 : decode cX7_number 111 = .ok (.aload_n 0, 1) := by decide +kernel
theorem dX7_number_112 : decode cX7_number 112 = .ok (.dup, 1) := by decide +kernel
theorem dX7_number_113 : decode cX7_number 113 = .ok (.getfield 62, 3) := by decide +kernel
theorem dX7_number_116 : decode cX7_number 116 = .ok (.iconst 1, 1) := by decide +kernel
theorem dX7_number_117 : decode cX7_number 117 = .ok (.iadd, 1) := by decide +kernel
theorem dX7_number_118 : decode cX7_number 118 = .ok (.putfield 62, 3) := by decide +kernel
theorem dX7_number_121 : decode cX7_number 121 = .ok (.iload 5, 2) := by decide +kernel
theorem dX7_number_123 : decode cX7_number 123 = .ok (.ifCond .eq 8, 3) := by decide +kernel
theorem dX7_number_126 : decode cX7_number 126 = .ok (.iload 4, 2) := by decide +kernel
theorem dX7_number_128 : decode cX7_number 128 = .ok (.goto 4, 3) := by decide +kernel
theorem dX7_number_131 : decode cX7_number 131 = .ok (.iconst (-1), 1) := by decide +kernel
theorem dX7_number_132 : decode cX7_number 132 = .ok (.ireturn, 1) := by decide +kernel
theorem dX7_begins_0 : decode cX7_begins 0 = .ok (.iconst 0, 1) := by decide +kernel
theorem dX7_begins_1 : decode cX7_begins 1 = .ok (.istore_n 1, 1) := by decide +kernel
theorem dX7_begins_2 : decode cX7_begins 2 = .ok (.iload_n 1, 1) := by decide +kernel
theorem dX7_begins_3 : decode cX7_begins 3 = .ok (.bipush 37, 2) := by decide +kernel
theorem dX7_begins_5 : decode cX7_begins 5 = .ok (.if_icmp .ge 16, 3) := by decide +kernel
theorem dX7_begins_8 : decode cX7_begins 8 = .ok (.aload_n 0, 1) := by decide +kernel
theorem dX7_begins_9 : decode cX7_begins 9 = .ok (.getfield 16, 3) := by decide +kernel
theorem dX7_begins_12 : decode cX7_begins 12 = .ok (.iload_n 1, 1) := by decide +kernel
theorem dX7_begins_13 : decode cX7_begins 13 = .ok (.iconst 0, 1) := by decide +kernel
theorem dX7_begins_14 : decode cX7_begins 14 = .ok (.iastore, 1) := by decide +kernel
theorem dX7_begins_15 : decode cX7_begins 15 = .ok (.iinc 1 1, 3) := by decide +kernel
theorem dX7_begins_18 : decode cX7_begins 18 = .ok (.goto (-16), 3) := by decide +kernel
theorem dX7_begins_21 : decode cX7_begins 21 = .ok (.aload_n 0, 1) := by decide +kernel
theorem dX7_begins_22 : decode cX7_begins 22 = .ok (.getfield 16, 3) := by decide +kernel
theorem dX7_begins_25 : decode cX7_begins 25 = .ok (.iconst 2, 1) := by decide +kernel
theorem dX7_begins_26 : decode cX7_begins 26 = .ok (.bipush 20, 2) := by decide +kernel
theorem dX7_begins_28 : decode cX7_begins 28 = .ok (.iastore, 1) := by decide +kernel
theorem dX7_begins_29 : decode cX7_begins 29 = .ok (.aload_n 0, 1) := by decide +kernel
theorem dX7_begins_30 : decode cX7_begins 30 = .ok (.getfield 16, 3) := by decide +kernel
theorem dX7_begins_33 : decode cX7_begins 33 = .ok (.iconst 3, 1) := by decide +kernel
theorem dX7_begins_34 : decode cX7_begins 34 = .ok (.iconst 3, 1) := by decide +kernel
theorem dX7_begins_35 : decode cX7_begins 35 = .ok (.iastore, 1) := by decide +kernel
theorem dX7_begins_36 : decode cX7_begins 36 = .ok (.aload_n 0, 1) := by decide +kernel
theorem dX7_begins_37 : decode cX7_begins 37 = .ok (.getfield 16, 3) := by decide +kernel
theorem dX7_begins_40 : decode cX7_begins 40 = .ok (.iconst 4, 1) := by decide +kernel
theorem dX7_begins_41 : decode cX7_begins 41 = .ok (.bipush 10, 2) := by decide +kernel
theorem dX7_begins_43 : decode cX7_begins 43 = .ok (.iastore, 1) := by decide +kernel
theorem dX7_begins_44 : decode cX7_begins 44 = .ok (.iconst 0, 1) := by decide +kernel
theorem dX7_begins_45 : decode cX7_begins 45 = .ok (.istore_n 1, 1) := by decide +kernel
theorem dX7_begins_46 : decode cX7_begins 46 = .ok (.iload_n 1, 1) := by decide +kernel
theorem dX7_begins_47 : decode cX7_begins 47 = .ok (.bipush 29, 2) := by decide +kernel
theorem dX7_begins_49 : decode cX7_begins 49 = .ok (.if_icmp .ge 16, 3) := by decide +kernel
theorem dX7_begins_52 : decode cX7_begins 52 = .ok (.aload_n 0, 1) := by decide +kernel
theorem dX7_begins_53 : decode cX7_begins 53 = .ok (.getfield 19, 3) := by decide +kernel
theorem dX7_begins_56 : decode cX7_begins 56 = .ok (.iload_n 1, 1) := by decide +kernel
theorem dX7_begins_57 : decode cX7_begins 57 = .ok (.iconst 0, 1) := by decide +kernel
theorem dX7_begins_58 : decode cX7_begins 58 = .ok (.iastore, 1) := by decide +kernel
theorem dX7_begins_59 : decode cX7_begins 59 = .ok (.iinc 1 1, 3) := by decide +kernel
theorem dX7_begins_62 : decode cX7_begins 62 = .ok (.goto (-16), 3) := by decide +kernel
theorem dX7_begins_65 : decode cX7_begins 65 = .ok (.return_, 1) := by decide +kernel
theorem dX7_boughOf_0 : decode cX7_boughOf 0 = .ok (.aload_n 0, 1) := by decide +kernel
theorem dX7_boughOf_1 : decode cX7_boughOf 1 = .ok (.getfield 16, 3) := by decide +kernel
theorem dX7_boughOf_4 : decode cX7_boughOf 4 = .ok (.iconst 0, 1) := by decide +kernel
theorem dX7_boughOf_5 : decode cX7_boughOf 5 = .ok (.iaload, 1) := by decide +kernel
theorem dX7_boughOf_6 : decode cX7_boughOf 6 = .ok (.istore 5, 2) := by decide +kernel
theorem dX7_boughOf_8 : decode cX7_boughOf 8 = .ok (.aload_n 0, 1) := by decide +kernel
theorem dX7_boughOf_9 : decode cX7_boughOf 9 = .ok (.getfield 16, 3) := by decide +kernel
theorem dX7_boughOf_12 : decode cX7_boughOf 12 = .ok (.iconst 5, 1) := by decide +kernel
theorem dX7_boughOf_13 : decode cX7_boughOf 13 = .ok (.iload 5, 2) := by decide +kernel
theorem dX7_boughOf_15 : decode cX7_boughOf 15 = .ok (.iadd, 1) := by decide +kernel
theorem dX7_boughOf_16 : decode cX7_boughOf 16 = .ok (.iload_n 1, 1) := by decide +kernel
