theorem dX0_init_0 : decode cX0_init 0 = .ok (.aload_n 0, 1) := by decide +kernel
theorem dX0_init_1 : decode cX0_init 1 = .ok (.invokespecial 3, 3) := by decide +kernel
theorem dX0_init_4 : decode cX0_init 4 = .ok (.iload_n 1, 1) := by decide +kernel
theorem dX0_init_5 : decode cX0_init 5 = .ok (.newarray .int, 2) := by decide +kernel
theorem dX0_init_7 : decode cX0_init 7 = .ok (.astore 6, 2) := by decide +kernel
theorem dX0_init_9 : decode cX0_init 9 = .ok (.iconst 0, 1) := by decide +kernel
theorem dX0_init_10 : decode cX0_init 10 = .ok (.istore 7, 2) := by decide +kernel
theorem dX0_init_12 : decode cX0_init 12 = .ok (.iload 7, 2) := by decide +kernel
theorem dX0_init_14 : decode cX0_init 14 = .ok (.iload_n 1, 1) := by decide +kernel
theorem dX0_init_15 : decode cX0_init 15 = .ok (.if_icmp .ge 21, 3) := by decide +kernel
theorem dX0_init_18 : decode cX0_init 18 = .ok (.aload 6, 2) := by decide +kernel
theorem dX0_init_20 : decode cX0_init 20 = .ok (.iload 7, 2) := by decide +kernel
theorem dX0_init_22 : decode cX0_init 22 = .ok (.iload 7, 2) := by decide +kernel
theorem dX0_init_24 : decode cX0_init 24 = .ok (.iload_n 2, 1) := by decide +kernel
theorem dX0_init_25 : decode cX0_init 25 = .ok (.iload_n 3, 1) := by decide +kernel
theorem dX0_init_26 : decode cX0_init 26 = .ok (.invokestatic 9, 3) := by decide +kernel
theorem dX0_init_29 : decode cX0_init 29 = .ok (.iastore, 1) := by decide +kernel
theorem dX0_init_30 : decode cX0_init 30 = .ok (.iinc 7 1, 3) := by decide +kernel
theorem dX0_init_33 : decode cX0_init 33 = .ok (.goto (-21), 3) := by decide +kernel
theorem dX0_init_36 : decode cX0_init 36 = .ok (.aload_n 0, 1) := by decide +kernel
theorem dX0_init_37 : decode cX0_init 37 = .ok (.iload_n 1, 1) := by decide +kernel
theorem dX0_init_38 : decode cX0_init 38 = .ok (.newarray .int, 2) := by decide +kernel
theorem dX0_init_40 : decode cX0_init 40 = .ok (.putfield 15, 3) := by decide +kernel
theorem dX0_init_43 : decode cX0_init 43 = .ok (.lload 4, 2) := by decide +kernel
theorem dX0_init_45 : decode cX0_init 45 = .ok (.lstore 7, 2) := by decide +kernel
theorem dX0_init_47 : decode cX0_init 47 = .ok (.iconst 0, 1) := by decide +kernel
theorem dX0_init_48 : decode cX0_init 48 = .ok (.istore 9, 2) := by decide +kernel
theorem dX0_init_50 : decode cX0_init 50 = .ok (.iload 9, 2) := by decide +kernel
theorem dX0_init_52 : decode cX0_init 52 = .ok (.iload_n 1, 1) := by decide +kernel
theorem dX0_init_53 : decode cX0_init 53 = .ok (.if_icmp .ge 71, 3) := by decide +kernel
theorem dX0_init_56 : decode cX0_init 56 = .ok (.iload_n 1, 1) := by decide +kernel
theorem dX0_init_57 : decode cX0_init 57 = .ok (.iload 9, 2) := by decide +kernel
theorem dX0_init_59 : decode cX0_init 59 = .ok (.isub, 1) := by decide +kernel
theorem dX0_init_60 : decode cX0_init 60 = .ok (.istore 10, 2) := by decide +kernel
theorem dX0_init_62 : decode cX0_init 62 = .ok (.lload 7, 2) := by decide +kernel
theorem dX0_init_64 : decode cX0_init 64 = .ok (.ldc2_w 19, 3) := by decide +kernel
theorem dX0_init_67 : decode cX0_init 67 = .ok (.lmul, 1) := by decide +kernel
theorem dX0_init_68 : decode cX0_init 68 = .ok (.ldc2_w 21, 3) := by decide +kernel
theorem dX0_init_71 : decode cX0_init 71 = .ok (.ladd, 1) := by decide +kernel
theorem dX0_init_72 : decode cX0_init 72 = .ok (.lstore 7, 2) := by decide +kernel
theorem dX0_init_74 : decode cX0_init 74 = .ok (.lload 7, 2) := by decide +kernel
theorem dX0_init_76 : decode cX0_init 76 = .ok (.bipush 33, 2) := by decide +kernel
theorem dX0_init_78 : decode cX0_init 78 = .ok (.lushr, 1) := by decide +kernel
theorem dX0_init_79 : decode cX0_init 79 = .ok (.iload 10, 2) := by decide +kernel
theorem dX0_init_81 : decode cX0_init 81 = .ok (.i2l, 1) := by decide +kernel
theorem dX0_init_82 : decode cX0_init 82 = .ok (.lrem, 1) := by decide +kernel
theorem dX0_init_83 : decode cX0_init 83 = .ok (.l2i, 1) := by decide +kernel
theorem dX0_init_84 : decode cX0_init 84 = .ok (.istore 11, 2) := by decide +kernel
theorem dX0_init_86 : decode cX0_init 86 = .ok (.aload_n 0, 1) := by decide +kernel
theorem dX0_init_87 : decode cX0_init 87 = .ok (.getfield 15, 3) := by decide +kernel
theorem dX0_init_90 : decode cX0_init 90 = .ok (.iload 9, 2) := by decide +kernel
theorem dX0_init_92 : decode cX0_init 92 = .ok (.aload 6, 2) := by decide +kernel
theorem dX0_init_94 : decode cX0_init 94 = .ok (.iload 11, 2) := by decide +kernel
theorem dX0_init_96 : decode cX0_init 96 = .ok (.iaload, 1) := by decide +kernel
theorem dX0_init_97 : decode cX0_init 97 = .ok (.iastore, 1) := by decide +kernel
theorem dX0_init_98 : decode cX0_init 98 = .ok (.aload 6, 2) := by decide +kernel
theorem dX0_init_100 : decode cX0_init 100 = .ok (.iload 11, 2) := by decide +kernel
theorem dX0_init_102 : decode cX0_init 102 = .ok (.iconst 1, 1) := by decide +kernel
theorem dX0_init_103 : decode cX0_init 103 = .ok (.iadd, 1) := by decide +kernel
theorem dX0_init_104 : decode cX0_init 104 = .ok (.aload 6, 2) := by decide +kernel
theorem dX0_init_106 : decode cX0_init 106 = .ok (.iload 11, 2) := by decide +kernel
theorem dX0_init_108 : decode cX0_init 108 = .ok (.iload 10, 2) := by decide +kernel
theorem dX0_init_110 : decode cX0_init 110 = .ok (.iload 11, 2) := by decide +kernel
theorem dX0_init_112 : decode cX0_init 112 = .ok (.isub, 1) := by decide +kernel
theorem dX0_init_113 : decode cX0_init 113 = .ok (.iconst 1, 1) := by decide +kernel
theorem dX0_init_114 : decode cX0_init 114 = .ok (.isub, 1) := by decide +kernel
theorem dX0_init_115 : decode cX0_init 115 = .ok (.invokestatic 23, 3) := by decide +kernel
theorem dX0_init_118 : decode cX0_init 118 = .ok (.iinc 9 1, 3) := by decide +kernel
theorem dX0_init_121 : decode cX0_init 121 = .ok (.goto (-71), 3) := by decide +kernel
theorem dX0_init_124 : decode cX0_init 124 = .ok (.return_, 1) := by decide +kernel
theorem dX0_kindOf_0 : decode cX0_kindOf 0 = .ok (.iload_n 0, 1) := by decide +kernel
theorem dX0_kindOf_1 : decode cX0_kindOf 1 = .ok (.iload_n 1, 1) := by decide +kernel
theorem dX0_kindOf_2 : decode cX0_kindOf 2 = .ok (.if_icmp .ge 5, 3) := by decide +kernel
theorem dX0_kindOf_5 : decode cX0_kindOf 5 = .ok (.iconst 0, 1) := by decide +kernel
theorem dX0_kindOf_6 : decode cX0_kindOf 6 = .ok (.ireturn, 1) := by decide +kernel
theorem dX0_kindOf_7 : decode cX0_kindOf 7 = .ok (.iload_n 0, 1) := by decide +kernel
theorem dX0_kindOf_8 : decode cX0_kindOf 8 = .ok (.iload_n 1, 1) := by decide +kernel
theorem dX0_kindOf_9 : decode cX0_kindOf 9 = .ok (.iload_n 2, 1) := by decide +kernel
theorem dX0_kindOf_10 : decode cX0_kindOf 10 = .ok (.iadd, 1) := by decide +kernel
theorem dX0_kindOf_11 : decode cX0_kindOf 11 = .ok (.if_icmp .ge 7, 3) := by decide +kernel
theorem dX0_kindOf_14 : decode cX0_kindOf 14 = .ok (.iconst 1, 1) := by decide +kernel
theorem dX0_kindOf_15 : decode cX0_kindOf 15 = .ok (.goto 4, 3) := by decide +kernel
theorem dX0_kindOf_18 : decode cX0_kindOf 18 = .ok (.iconst 2, 1) := by decide +kernel
theorem dX0_kindOf_19 : decode cX0_kindOf 19 = .ok (.ireturn, 1) := by decide +kernel
theorem dX0_ballOf_0 : decode cX0_ballOf 0 = .ok (.iload_n 1, 1) := by decide +kernel
theorem dX0_ballOf_1 : decode cX0_ballOf 1 = .ok (.iconst 0, 1) := by decide +kernel
theorem dX0_ballOf_2 : decode cX0_ballOf 2 = .ok (.aload_n 0, 1) := by decide +kernel
theorem dX0_ballOf_3 : decode cX0_ballOf 3 = .ok (.getfield 15, 3) := by decide +kernel
theorem dX0_ballOf_6 : decode cX0_ballOf 6 = .ok (.arraylength, 1) := by decide +kernel
theorem dX0_ballOf_7 : decode cX0_ballOf 7 = .ok (.iconst 1, 1) := by decide +kernel
theorem dX0_ballOf_8 : decode cX0_ballOf 8 = .ok (.isub, 1) := by decide +kernel
theorem dX0_ballOf_9 : decode cX0_ballOf 9 = .ok (.invokestatic 29, 3) := by decide +kernel
theorem dX0_ballOf_12 : decode cX0_ballOf 12 = .ok (.ifCond .eq 12, 3) := by decide +kernel
theorem dX0_ballOf_15 : decode cX0_ballOf 15 = .ok (.aload_n 0, 1) := by decide +kernel
theorem dX0_ballOf_16 : decode cX0_ballOf 16 = .ok (.getfield 15, 3) := by decide +kernel
theorem dX0_ballOf_19 : decode cX0_ballOf 19 = .ok (.iload_n 1, 1) := by decide +kernel
theorem dX0_ballOf_20 : decode cX0_ballOf 20 = .ok (.iaload, 1) := by decide +kernel
theorem dX0_ballOf_21 : decode cX0_ballOf 21 = .ok (.goto 4, 3) := by decide +kernel
theorem dX0_ballOf_24 : decode cX0_ballOf 24 = .ok (.iconst (-1), 1) := by decide +kernel
theorem dX0_ballOf_25 : decode cX0_ballOf 25 = .ok (.ireturn, 1) := by decide +kernel
theorem dX0_give_0 : decode cX0_give 0 = .ok (.iload_n 1, 1) := by decide +kernel
theorem dX0_give_1 : decode cX0_give 1 = .ok (.iconst 0, 1) := by decide +kernel
theorem dX0_give_2 : decode cX0_give 2 = .ok (.aload_n 0, 1) := by decide +kernel
theorem dX0_give_3 : decode cX0_give 3 = .ok (.getfield 15, 3) := by decide +kernel
theorem dX0_give_6 : decode cX0_give 6 = .ok (.arraylength, 1) := by decide +kernel
theorem dX0_give_7 : decode cX0_give 7 = .ok (.iconst 1, 1) := by decide +kernel
theorem dX0_give_8 : decode cX0_give 8 = .ok (.isub, 1) := by decide +kernel
theorem dX0_give_9 : decode cX0_give 9 = .ok (.invokestatic 29, 3) := by decide +kernel
theorem dX0_give_12 : decode cX0_give 12 = .ok (.ifCond .eq 10, 3) := by decide +kernel
theorem dX0_give_15 : decode cX0_give 15 = .ok (.aload_n 0, 1) := by decide +kernel
theorem dX0_give_16 : decode cX0_give 16 = .ok (.getfield 15, 3) := by decide +kernel
theorem dX0_give_19 : decode cX0_give 19 = .ok (.iload_n 1, 1) := by decide +kernel
theorem dX0_give_20 : decode cX0_give 20 = .ok (.iload_n 2, 1) := by decide +kernel
theorem dX0_give_21 : decode cX0_give 21 = .ok (.iastore, 1) := by decide +kernel
theorem dX0_give_22 : decode cX0_give 22 = .ok (.return_, 1) := by decide +kernel
theorem dX0_sendAway_0 : decode cX0_sendAway 0 = .ok (.aload_n 0, 1) := by decide +kernel
theorem dX0_sendAway_1 : decode cX0_sendAway 1 = .ok (.iload_n 1, 1) := by decide +kernel
theorem dX0_sendAway_2 : decode cX0_sendAway 2 = .ok (.iconst 3, 1) := by decide +kernel
theorem dX0_sendAway_3 : decode cX0_sendAway 3 = .ok (.invokevirtual 33, 3) := by decide +kernel
theorem dX0_sendAway_6 : decode cX0_sendAway 6 = .ok (.iconst 0, 1) := by decide +kernel
theorem dX0_sendAway_7 : decode cX0_sendAway 7 = .ok (.istore_n 2, 1) := by decide +kernel
theorem dX0_sendAway_8 : decode cX0_sendAway 8 = .ok (.iload_n 2, 1) := by decide +kernel
theorem dX0_sendAway_9 : decode cX0_sendAway 9 = .ok (.aload_n 0, 1) := by decide +kernel
theorem dX0_sendAway_10 : decode cX0_sendAway 10 = .ok (.getfield 15, 3) := by decide +kernel
theorem dX0_sendAway_13 : decode cX0_sendAway 13 = .ok (.arraylength, 1) := by decide +kernel
theorem dX0_sendAway_14 : decode cX0_sendAway 14 = .ok (.if_icmp .ge 28, 3) := by decide +kernel
theorem dX0_sendAway_17 : decode cX0_sendAway 17 = .ok (.aload_n 0, 1) := by decide +kernel
theorem dX0_sendAway_18 : decode cX0_sendAway 18 = .ok (.getfield 15, 3) := by decide +kernel
theorem dX0_sendAway_21 : decode cX0_sendAway 21 = .ok (.iload_n 2, 1) := by decide +kernel
theorem dX0_sendAway_22 : decode cX0_sendAway 22 = .ok (.iaload, 1) := by decide +kernel
theorem dX0_sendAway_23 : decode cX0_sendAway 23 = .ok (.iconst 1, 1) := by decide +kernel
theorem dX0_sendAway_24 : decode cX0_sendAway 24 = .ok (.if_icmp .ne 12, 3) := by decide +kernel
theorem dX0_sendAway_27 : decode cX0_sendAway 27 = .ok (.aload_n 0, 1) := by decide +kernel
theorem dX0_sendAway_28 : decode cX0_sendAway 28 = .ok (.getfield 15, 3) := by decide +kernel
theorem dX0_sendAway_31 : decode cX0_sendAway 31 = .ok (.iload_n 2, 1) := by decide +kernel
theorem dX0_sendAway_32 : decode cX0_sendAway 32 = .ok (.iconst 0, 1) := by decide +kernel
theorem dX0_sendAway_33 : decode cX0_sendAway 33 = .ok (.iastore, 1) := by decide +kernel
theorem dX0_sendAway_34 : decode cX0_sendAway 34 = .ok (.iload_n 2, 1) := by decide +kernel
theorem dX0_sendAway_35 : decode cX0_sendAway 35 = .ok (.ireturn, 1) := by decide +kernel
theorem dX0_sendAway_36 : decode cX0_sendAway 36 = .ok (.iinc 2 1, 3) := by decide +kernel
theorem dX0_sendAway_39 : decode cX0_sendAway 39 = .ok (.goto (-31), 3) := by decide +kernel
theorem dX0_sendAway_42 : decode cX0_sendAway 42 = .ok (.iconst (-1), 1) := by decide +kernel
theorem dX0_sendAway_43 : decode cX0_sendAway 43 = .ok (.ireturn, 1) := by decide +kernel
theorem dX1_init_0 : decode cX1_init 0 = .ok (.aload_n 0, 1) := by decide +kernel
theorem dX1_init_1 : decode cX1_init 1 = .ok (.invokespecial 3, 3) := by decide +kernel
theorem dX1_init_4 : decode cX1_init 4 = .ok (.aload_n 0, 1) := by decide +kernel
theorem dX1_init_5 : decode cX1_init 5 = .ok (.iconst 0, 1) := by decide +kernel
theorem dX1_init_6 : decode cX1_init 6 = .ok (.putfield 11, 3) := by decide +kernel
theorem dX1_init_9 : decode cX1_init 9 = .ok (.aload_n 0, 1) := by decide +kernel
theorem dX1_init_10 : decode cX1_init 10 = .ok (.iload_n 1, 1) := by decide +kernel
theorem dX1_init_11 : decode cX1_init 11 = .ok (.putfield 15, 3) := by decide +kernel
theorem dX1_init_14 : decode cX1_init 14 = .ok (.aload_n 0, 1) := by decide +kernel
theorem dX1_init_15 : decode cX1_init 15 = .ok (.iload_n 2, 1) := by decide +kernel
theorem dX1_init_16 : decode cX1_init 16 = .ok (.putfield 18, 3) := by decide +kernel
theorem dX1_init_19 : decode cX1_init 19 = .ok (.aload_n 0, 1) := by decide +kernel
theorem dX1_init_20 : decode cX1_init 20 = .ok (.iload_n 3, 1) := by decide +kernel
theorem dX1_init_21 : decode cX1_init 21 = .ok (.putfield 21, 3) := by decide +kernel
theorem dX1_init_24 : decode cX1_init 24 = .ok (.aload_n 0, 1) := by decide +kernel
theorem dX1_init_25 : decode cX1_init 25 = .ok (.aload 4, 2) := by decide +kernel
theorem dX1_init_27 : decode cX1_init 27 = .ok (.putfield 24, 3) := by decide +kernel
theorem dX1_init_30 : decode cX1_init 30 = .ok (.aload_n 0, 1) := by decide +kernel
theorem dX1_init_31 : decode cX1_init 31 = .ok (.iload 5, 2) := by decide +kernel
theorem dX1_init_33 : decode cX1_init 33 = .ok (.putfield 28, 3) := by decide +kernel
theorem dX1_init_36 : decode cX1_init 36 = .ok (.aload_n 0, 1) := by decide +kernel
theorem dX1_init_37 : decode cX1_init 37 = .ok (.iload 6, 2) := by decide +kernel
theorem dX1_init_39 : decode cX1_init 39 = .ok (.putfield 31, 3) := by decide +kernel
theorem dX1_init_42 : decode cX1_init 42 = .ok (.aload_n 0, 1) := by decide +kernel
theorem dX1_init_43 : decode cX1_init 43 = .ok (.new 34, 3) := by decide +kernel
theorem dX1_init_46 : decode cX1_init 46 = .ok (.dup, 1) := by decide +kernel
theorem dX1_init_47 : decode cX1_init 47 = .ok (.iconst 0, 1) := by decide +kernel
theorem dX1_init_48 : decode cX1_init 48 = .ok (.iload_n 1, 1) := by decide +kernel
theorem dX1_init_49 : decode cX1_init 49 = .ok (.iload_n 1, 1) := by decide +kernel
theorem dX1_init_50 : decode cX1_init 50 = .ok (.invokespecial 36, 3) := by decide +kernel
theorem dX1_init_53 : decode cX1_init 53 = .ok (.putfield 39, 3) := by decide +kernel
theorem dX1_init_56 : decode cX1_init 56 = .ok (.return_, 1) := by decide +kernel
theorem dX1_mayAsk_0 : decode cX1_mayAsk 0 = .ok (.aload_n 0, 1) := by decide +kernel
theorem dX1_mayAsk_1 : decode cX1_mayAsk 1 = .ok (.getfield 43, 3) := by decide +kernel
theorem dX1_mayAsk_4 : decode cX1_mayAsk 4 = .ok (.iload_n 1, 1) := by decide +kernel
theorem dX1_mayAsk_5 : decode cX1_mayAsk 5 = .ok (.ishr, 1) := by decide +kernel
theorem dX1_mayAsk_6 : decode cX1_mayAsk 6 = .ok (.iconst 1, 1) := by decide +kernel
theorem dX1_mayAsk_7 : decode cX1_mayAsk 7 = .ok (.iand, 1) := by decide +kernel
theorem dX1_mayAsk_8 : decode cX1_mayAsk 8 = .ok (.ifCond .eq 7, 3) := by decide +kernel
theorem dX1_mayAsk_11 : decode cX1_mayAsk 11 = .ok (.iconst 1, 1) := by decide +kernel
theorem dX1_mayAsk_12 : decode cX1_mayAsk 12 = .ok (.goto 4, 3) := by decide +kernel
theorem dX1_mayAsk_15 : decode cX1_mayAsk 15 = .ok (.iconst 0, 1) := by decide +kernel
theorem dX1_mayAsk_16 : decode cX1_mayAsk 16 = .ok (.ireturn, 1) := by decide +kernel
theorem dX1_lastUpTo_0 : decode cX1_lastUpTo 0 = .ok (.aload_n 0, 1) := by decide +kernel
theorem dX1_lastUpTo_1 : decode cX1_lastUpTo 1 = .ok (.getfield 39, 3) := by decide +kernel
theorem dX1_lastUpTo_4 : decode cX1_lastUpTo 4 = .ok (.astore_n 2, 1) := by decide +kernel
theorem dX1_lastUpTo_5 : decode cX1_lastUpTo 5 = .ok (.aload_n 2, 1) := by decide +kernel
theorem dX1_lastUpTo_6 : decode cX1_lastUpTo 6 = .ok (.getfield 46, 3) := by decide +kernel
theorem dX1_lastUpTo_9 : decode cX1_lastUpTo 9 = .ok (.ifnull 22, 3) := by decide +kernel
theorem dX1_lastUpTo_12 : decode cX1_lastUpTo 12 = .ok (.aload_n 2, 1) := by decide +kernel
theorem dX1_lastUpTo_13 : decode cX1_lastUpTo 13 = .ok (.getfield 46, 3) := by decide +kernel
theorem dX1_lastUpTo_16 : decode cX1_lastUpTo 16 = .ok (.getfield 49, 3) := by decide +kernel
theorem dX1_lastUpTo_19 : decode cX1_lastUpTo 19 = .ok (.iload_n 1, 1) := by decide +kernel
theorem dX1_lastUpTo_20 : decode cX1_lastUpTo 20 = .ok (.if_icmp .gt 11, 3) := by decide +kernel
theorem dX1_lastUpTo_23 : decode cX1_lastUpTo 23 = .ok (.aload_n 2, 1) := by decide +kernel
theorem dX1_lastUpTo_24 : decode cX1_lastUpTo 24 = .ok (.getfield 46, 3) := by decide +kernel
theorem dX1_lastUpTo_27 : decode cX1_lastUpTo 27 = .ok (.astore_n 2, 1) := by decide +kernel
theorem dX1_lastUpTo_28 : decode cX1_lastUpTo 28 = .ok (.goto (-23), 3) := by decide +kernel
theorem dX1_lastUpTo_31 : decode cX1_lastUpTo 31 = .ok (.aload_n 2, 1) := by decide +kernel
theorem dX1_lastUpTo_32 : decode cX1_lastUpTo 32 = .ok (.areturn, 1) := by decide +kernel
theorem dX1_placeOn_0 : decode cX1_placeOn 0 = .ok (.iconst (-1), 1) := by decide +kernel
theorem dX1_placeOn_1 : decode cX1_placeOn 1 = .ok (.istore_n 3, 1) := by decide +kernel
theorem dX1_placeOn_2 : decode cX1_placeOn 2 = .ok (.aload_n 0, 1) := by decide +kernel
theorem dX1_placeOn_3 : decode cX1_placeOn 3 = .ok (.getfield 39, 3) := by decide +kernel
theorem dX1_placeOn_6 : decode cX1_placeOn 6 = .ok (.astore 4, 2) := by decide +kernel
theorem dX1_placeOn_8 : decode cX1_placeOn 8 = .ok (.aload 4, 2) := by decide +kernel
theorem dX1_placeOn_10 : decode cX1_placeOn 10 = .ok (.ifnull 37, 3) := by decide +kernel
theorem dX1_placeOn_13 : decode cX1_placeOn 13 = .ok (.aload 4, 2) := by decide +kernel
theorem dX1_placeOn_15 : decode cX1_placeOn 15 = .ok (.getfield 49, 3) := by decide +kernel
theorem dX1_placeOn_18 : decode cX1_placeOn 18 = .ok (.iload_n 1, 1) := by decide +kernel
theorem dX1_placeOn_19 : decode cX1_placeOn 19 = .ok (.if_icmp .gt 28, 3) := by decide +kernel
theorem dX1_placeOn_22 : decode cX1_placeOn 22 = .ok (.aload 4, 2) := by decide +kernel
theorem dX1_placeOn_24 : decode cX1_placeOn 24 = .ok (.getfield 52, 3) := by decide +kernel
theorem dX1_placeOn_27 : decode cX1_placeOn 27 = .ok (.iload_n 2, 1) := by decide +kernel
theorem dX1_placeOn_28 : decode cX1_placeOn 28 = .ok (.if_icmp .gt 9, 3) := by decide +kernel
theorem dX1_placeOn_31 : decode cX1_placeOn 31 = .ok (.aload 4, 2) := by decide +kernel
theorem dX1_placeOn_33 : decode cX1_placeOn 33 = .ok (.getfield 55, 3) := by decide +kernel
theorem dX1_placeOn_36 : decode cX1_placeOn 36 = .ok (.istore_n 3, 1) := by decide +kernel
theorem dX1_placeOn_37 : decode cX1_placeOn 37 = .ok (.aload 4, 2) := by decide +kernel
theorem dX1_placeOn_39 : decode cX1_placeOn 39 = .ok (.getfield 46, 3) := by decide +kernel
theorem dX1_placeOn_42 : decode cX1_placeOn 42 = .ok (.astore 4, 2) := by decide +kernel
theorem dX1_placeOn_44 : decode cX1_placeOn 44 = .ok (.goto (-36), 3) := by decide +kernel
theorem dX1_placeOn_47 : decode cX1_placeOn 47 = .ok (.iload_n 3, 1) := by decide +kernel
theorem dX1_placeOn_48 : decode cX1_placeOn 48 = .ok (.ireturn, 1) := by decide +kernel
theorem dX1_daysAt_0 : decode cX1_daysAt 0 = .ok (.iconst 0, 1) := by decide +kernel
theorem dX1_daysAt_1 : decode cX1_daysAt 1 = .ok (.istore 5, 2) := by decide +kernel
theorem dX1_daysAt_3 : decode cX1_daysAt 3 = .ok (.iconst (-1), 1) := by decide +kernel
theorem dX1_daysAt_4 : decode cX1_daysAt 4 = .ok (.istore 6, 2) := by decide +kernel
theorem dX1_daysAt_6 : decode cX1_daysAt 6 = .ok (.iload_n 2, 1) := by decide +kernel
theorem dX1_daysAt_7 : decode cX1_daysAt 7 = .ok (.istore 7, 2) := by decide +kernel
theorem dX1_daysAt_9 : decode cX1_daysAt 9 = .ok (.aload_n 0, 1) := by decide +kernel
theorem dX1_daysAt_10 : decode cX1_daysAt 10 = .ok (.getfield 39, 3) := by decide +kernel
theorem dX1_daysAt_13 : decode cX1_daysAt 13 = .ok (.astore 8, 2) := by decide +kernel
theorem dX1_daysAt_15 : decode cX1_daysAt 15 = .ok (.aload 8, 2) := by decide +kernel
theorem dX1_daysAt_17 : decode cX1_daysAt 17 = .ok (.ifnull 74, 3) := by decide +kernel
theorem dX1_daysAt_20 : decode cX1_daysAt 20 = .ok (.aload 8, 2) := by decide +kernel
theorem dX1_daysAt_22 : decode cX1_daysAt 22 = .ok (.getfield 49, 3) := by decide +kernel
theorem dX1_daysAt_25 : decode cX1_daysAt 25 = .ok (.iload_n 3, 1) := by decide +kernel
theorem dX1_daysAt_26 : decode cX1_daysAt 26 = .ok (.if_icmp .gt 65, 3) := by decide +kernel
theorem dX1_daysAt_29 : decode cX1_daysAt 29 = .ok (.aload 8, 2) := by decide +kernel
theorem dX1_daysAt_31 : decode cX1_daysAt 31 = .ok (.getfield 52, 3) := by decide +kernel
theorem dX1_daysAt_34 : decode cX1_daysAt 34 = .ok (.iload 4, 2) := by decide +kernel
theorem dX1_daysAt_36 : decode cX1_daysAt 36 = .ok (.if_icmp .gt 45, 3) := by decide +kernel
theorem dX1_daysAt_39 : decode cX1_daysAt 39 = .ok (.aload 8, 2) := by decide +kernel
theorem dX1_daysAt_41 : decode cX1_daysAt 41 = .ok (.getfield 49, 3) := by decide +kernel
theorem dX1_daysAt_44 : decode cX1_daysAt 44 = .ok (.iload_n 2, 1) := by decide +kernel
theorem dX1_daysAt_45 : decode cX1_daysAt 45 = .ok (.invokestatic 58, 3) := by decide +kernel
theorem dX1_daysAt_48 : decode cX1_daysAt 48 = .ok (.istore 9, 2) := by decide +kernel
theorem dX1_daysAt_50 : decode cX1_daysAt 50 = .ok (.iload 5, 2) := by decide +kernel
theorem dX1_daysAt_52 : decode cX1_daysAt 52 = .ok (.iload 6, 2) := by decide +kernel
theorem dX1_daysAt_54 : decode cX1_daysAt 54 = .ok (.iload_n 1, 1) := by decide +kernel
theorem dX1_daysAt_55 : decode cX1_daysAt 55 = .ok (.if_icmp .ne 11, 3) := by decide +kernel
theorem dX1_daysAt_58 : decode cX1_daysAt 58 = .ok (.iload 9, 2) := by decide +kernel
theorem dX1_daysAt_60 : decode cX1_daysAt 60 = .ok (.iload 7, 2) := by decide +kernel
theorem dX1_daysAt_62 : decode cX1_daysAt 62 = .ok (.isub, 1) := by decide +kernel
theorem dX1_daysAt_63 : decode cX1_daysAt 63 = .ok (.goto 4, 3) := by decide +kernel
theorem dX1_daysAt_66 : decode cX1_daysAt 66 = .ok (.iconst 0, 1) := by decide +kernel
theorem dX1_daysAt_67 : decode cX1_daysAt 67 = .ok (.iadd, 1) := by decide +kernel
theorem dX1_daysAt_68 : decode cX1_daysAt 68 = .ok (.istore 5, 2) := by decide +kernel
theorem dX1_daysAt_70 : decode cX1_daysAt 70 = .ok (.aload 8, 2) := by decide +kernel
theorem dX1_daysAt_72 : decode cX1_daysAt 72 = .ok (.getfield 55, 3) := by decide +kernel
theorem dX1_daysAt_75 : decode cX1_daysAt 75 = .ok (.istore 6, 2) := by decide +kernel
theorem dX1_daysAt_77 : decode cX1_daysAt 77 = .ok (.iload 9, 2) := by decide +kernel
theorem dX1_daysAt_79 : decode cX1_daysAt 79 = .ok (.istore 7, 2) := by decide +kernel
theorem dX1_daysAt_81 : decode cX1_daysAt 81 = .ok (.aload 8, 2) := by decide +kernel
theorem dX1_daysAt_83 : decode cX1_daysAt 83 = .ok (.getfield 46, 3) := by decide +kernel
theorem dX1_daysAt_86 : decode cX1_daysAt 86 = .ok (.astore 8, 2) := by decide +kernel
theorem dX1_daysAt_88 : decode cX1_daysAt 88 = .ok (.goto (-73), 3) := by decide +kernel
theorem dX1_daysAt_91 : decode cX1_daysAt 91 = .ok (.iload 6, 2) := by decide +kernel
theorem dX1_daysAt_93 : decode cX1_daysAt 93 = .ok (.iload_n 1, 1) := by decide +kernel
theorem dX1_daysAt_94 : decode cX1_daysAt 94 = .ok (.if_icmp .ne 19, 3) := by decide +kernel
theorem dX1_daysAt_97 : decode cX1_daysAt 97 = .ok (.iload 5, 2) := by decide +kernel
theorem dX1_daysAt_99 : decode cX1_daysAt 99 = .ok (.iload_n 3, 1) := by decide +kernel
theorem dX1_daysAt_100 : decode cX1_daysAt 100 = .ok (.iconst 1, 1) := by decide +kernel
theorem dX1_daysAt_101 : decode cX1_daysAt 101 = .ok (.iadd, 1) := by decide +kernel
theorem dX1_daysAt_102 : decode cX1_daysAt 102 = .ok (.iload 7, 2) := by decide +kernel
theorem dX1_daysAt_104 : decode cX1_daysAt 104 = .ok (.isub, 1) := by decide +kernel
theorem dX1_daysAt_105 : decode cX1_daysAt 105 = .ok (.iconst 0, 1) := by decide +kernel
theorem dX1_daysAt_106 : decode cX1_daysAt 106 = .ok (.invokestatic 58, 3) := by decide +kernel
theorem dX1_daysAt_109 : decode cX1_daysAt 109 = .ok (.iadd, 1) := by decide +kernel
theorem dX1_daysAt_110 : decode cX1_daysAt 110 = .ok (.goto 5, 3) := by decide +kernel
theorem dX1_daysAt_113 : decode cX1_daysAt 113 = .ok (.iload 5, 2) := by decide +kernel
theorem dX1_daysAt_115 : decode cX1_daysAt 115 = .ok (.ireturn, 1) := by decide +kernel
theorem dX2_init_0 : decode cX2_init 0 = .ok (.aload_n 0, 1) := by decide +kernel
theorem dX2_init_1 : decode cX2_init 1 = .ok (.invokespecial 3, 3) := by decide +kernel
theorem dX2_init_4 : decode cX2_init 4 = .ok (.aload_n 0, 1) := by decide +kernel
theorem dX2_init_5 : decode cX2_init 5 = .ok (.aload_n 1, 1) := by decide +kernel
theorem dX2_init_6 : decode cX2_init 6 = .ok (.putfield 9, 3) := by decide +kernel
theorem dX2_init_9 : decode cX2_init 9 = .ok (.aload_n 0, 1) := by decide +kernel
theorem dX2_init_10 : decode cX2_init 10 = .ok (.iload_n 2, 1) := by decide +kernel
theorem dX2_init_11 : decode cX2_init 11 = .ok (.putfield 15, 3) := by decide +kernel
theorem dX2_init_14 : decode cX2_init 14 = .ok (.aload_n 0, 1) := by decide +kernel
theorem dX2_init_15 : decode cX2_init 15 = .ok (.iload_n 3, 1) := by decide +kernel
theorem dX2_init_16 : decode cX2_init 16 = .ok (.putfield 19, 3) := by decide +kernel
theorem dX2_init_19 : decode cX2_init 19 = .ok (.aload_n 0, 1) := by decide +kernel
theorem dX2_init_20 : decode cX2_init 20 = .ok (.iload 4, 2) := by decide +kernel
theorem dX2_init_22 : decode cX2_init 22 = .ok (.putfield 22, 3) := by decide +kernel
theorem dX2_init_25 : decode cX2_init 25 = .ok (.aload_n 0, 1) := by decide +kernel
theorem dX2_init_26 : decode cX2_init 26 = .ok (.iload 5, 2) := by decide +kernel
theorem dX2_init_28 : decode cX2_init 28 = .ok (.putfield 25, 3) := by decide +kernel
theorem dX2_init_31 : decode cX2_init 31 = .ok (.return_, 1) := by decide +kernel
theorem dX2_agreeing_0 : decode cX2_agreeing 0 = .ok (.aload_n 1, 1) := by decide +kernel
theorem dX2_agreeing_1 : decode cX2_agreeing 1 = .ok (.getfield 28, 3) := by decide +kernel
theorem dX2_agreeing_4 : decode cX2_agreeing 4 = .ok (.aload_n 0, 1) := by decide +kernel
theorem dX2_agreeing_5 : decode cX2_agreeing 5 = .ok (.getfield 15, 3) := by decide +kernel
theorem dX2_agreeing_8 : decode cX2_agreeing 8 = .ok (.aload_n 0, 1) := by decide +kernel
theorem dX2_agreeing_9 : decode cX2_agreeing 9 = .ok (.getfield 19, 3) := by decide +kernel
theorem dX2_agreeing_12 : decode cX2_agreeing 12 = .ok (.invokestatic 33, 3) := by decide +kernel
theorem dX2_agreeing_15 : decode cX2_agreeing 15 = .ok (.ifCond .eq 7, 3) := by decide +kernel
theorem dX2_agreeing_18 : decode cX2_agreeing 18 = .ok (.iconst 1, 1) := by decide +kernel
theorem dX2_agreeing_19 : decode cX2_agreeing 19 = .ok (.goto 4, 3) := by decide +kernel
theorem dX2_agreeing_22 : decode cX2_agreeing 22 = .ok (.iconst 0, 1) := by decide +kernel
theorem dX2_agreeing_23 : decode cX2_agreeing 23 = .ok (.istore_n 2, 1) := by decide +kernel
theorem dX2_agreeing_24 : decode cX2_agreeing 24 = .ok (.iload_n 2, 1) := by decide +kernel
theorem dX2_agreeing_25 : decode cX2_agreeing 25 = .ok (.aload_n 1, 1) := by decide +kernel
theorem dX2_agreeing_26 : decode cX2_agreeing 26 = .ok (.getfield 37, 3) := by decide +kernel
theorem dX2_agreeing_29 : decode cX2_agreeing 29 = .ok (.aload_n 0, 1) := by decide +kernel
theorem dX2_agreeing_30 : decode cX2_agreeing 30 = .ok (.getfield 22, 3) := by decide +kernel
theorem dX2_agreeing_33 : decode cX2_agreeing 33 = .ok (.if_icmp .ne 7, 3) := by decide +kernel
theorem dX2_agreeing_36 : decode cX2_agreeing 36 = .ok (.iconst 1, 1) := by decide +kernel
theorem dX2_agreeing_37 : decode cX2_agreeing 37 = .ok (.goto 4, 3) := by decide +kernel
theorem dX2_agreeing_40 : decode cX2_agreeing 40 = .ok (.iconst 0, 1) := by decide +kernel
theorem dX2_agreeing_41 : decode cX2_agreeing 41 = .ok (.iadd, 1) := by decide +kernel
theorem dX2_agreeing_42 : decode cX2_agreeing 42 = .ok (.istore_n 2, 1) := by decide +kernel
theorem dX2_agreeing_43 : decode cX2_agreeing 43 = .ok (.iload_n 2, 1) := by decide +kernel
theorem dX2_agreeing_44 : decode cX2_agreeing 44 = .ok (.aload_n 1, 1) := by decide +kernel
theorem dX2_agreeing_45 : decode cX2_agreeing 45 = .ok (.getfield 38, 3) := by decide +kernel
theorem dX2_agreeing_48 : decode cX2_agreeing 48 = .ok (.aload_n 0, 1) := by decide +kernel
theorem dX2_agreeing_49 : decode cX2_agreeing 49 = .ok (.getfield 25, 3) := by decide +kernel
theorem dX2_agreeing_52 : decode cX2_agreeing 52 = .ok (.if_icmp .ne 7, 3) := by decide +kernel
theorem dX2_agreeing_55 : decode cX2_agreeing 55 = .ok (.iconst 1, 1) := by decide +kernel
theorem dX2_agreeing_56 : decode cX2_agreeing 56 = .ok (.goto 4, 3) := by decide +kernel
theorem dX2_agreeing_59 : decode cX2_agreeing 59 = .ok (.iconst 0, 1) := by decide +kernel
theorem dX2_agreeing_60 : decode cX2_agreeing 60 = .ok (.iadd, 1) := by decide +kernel
theorem dX2_agreeing_61 : decode cX2_agreeing 61 = .ok (.istore_n 2, 1) := by decide +kernel
theorem dX2_agreeing_62 : decode cX2_agreeing 62 = .ok (.iload_n 2, 1) := by decide +kernel
theorem dX2_agreeing_63 : decode cX2_agreeing 63 = .ok (.ireturn, 1) := by decide +kernel
theorem dX2_disagreeing_0 : decode cX2_disagreeing 0 = .ok (.aload_n 1, 1) := by decide +kernel
theorem dX2_disagreeing_1 : decode cX2_disagreeing 1 = .ok (.getfield 28, 3) := by decide +kernel
theorem dX2_disagreeing_4 : decode cX2_disagreeing 4 = .ok (.aload_n 0, 1) := by decide +kernel
theorem dX2_disagreeing_5 : decode cX2_disagreeing 5 = .ok (.getfield 15, 3) := by decide +kernel
theorem dX2_disagreeing_8 : decode cX2_disagreeing 8 = .ok (.aload_n 0, 1) := by decide +kernel
theorem dX2_disagreeing_9 : decode cX2_disagreeing 9 = .ok (.getfield 19, 3) := by decide +kernel
theorem dX2_disagreeing_12 : decode cX2_disagreeing 12 = .ok (.invokestatic 33, 3) := by decide +kernel
theorem dX2_disagreeing_15 : decode cX2_disagreeing 15 = .ok (.ifCond .eq 7, 3) := by decide +kernel
theorem dX2_disagreeing_18 : decode cX2_disagreeing 18 = .ok (.iconst 0, 1) := by decide +kernel
theorem dX2_disagreeing_19 : decode cX2_disagreeing 19 = .ok (.goto 4, 3) := by decide +kernel
theorem dX2_disagreeing_22 : decode cX2_disagreeing 22 = .ok (.iconst 1, 1) := by decide +kernel
theorem dX2_disagreeing_23 : decode cX2_disagreeing 23 = .ok (.istore_n 2, 1) := by decide +kernel
theorem dX2_disagreeing_24 : decode cX2_disagreeing 24 = .ok (.iload_n 2, 1) := by decide +kernel
theorem dX2_disagreeing_25 : decode cX2_disagreeing 25 = .ok (.aload_n 0, 1) := by decide +kernel
theorem dX2_disagreeing_26 : decode cX2_disagreeing 26 = .ok (.getfield 22, 3) := by decide +kernel
theorem dX2_disagreeing_29 : decode cX2_disagreeing 29 = .ok (.iconst (-1), 1) := by decide +kernel
theorem dX2_disagreeing_30 : decode cX2_disagreeing 30 = .ok (.if_icmp .eq 18, 3) := by decide +kernel
theorem dX2_disagreeing_33 : decode cX2_disagreeing 33 = .ok (.aload_n 1, 1) := by decide +kernel
theorem dX2_disagreeing_34 : decode cX2_disagreeing 34 = .ok (.getfield 37, 3) := by decide +kernel
theorem dX2_disagreeing_37 : decode cX2_disagreeing 37 = .ok (.aload_n 0, 1) := by decide +kernel
theorem dX2_disagreeing_38 : decode cX2_disagreeing 38 = .ok (.getfield 22, 3) := by decide +kernel
theorem dX2_disagreeing_41 : decode cX2_disagreeing 41 = .ok (.if_icmp .eq 7, 3) := by decide +kernel
theorem dX2_disagreeing_44 : decode cX2_disagreeing 44 = .ok (.iconst 1, 1) := by decide +kernel
theorem dX2_disagreeing_45 : decode cX2_disagreeing 45 = .ok (.goto 4, 3) := by decide +kernel
theorem dX2_disagreeing_48 : decode cX2_disagreeing 48 = .ok (.iconst 0, 1) := by decide +kernel
theorem dX2_disagreeing_49 : decode cX2_disagreeing 49 = .ok (.iadd, 1) := by decide +kernel
theorem dX2_disagreeing_50 : decode cX2_disagreeing 50 = .ok (.istore_n 2, 1) := by decide +kernel
theorem dX2_disagreeing_51 : decode cX2_disagreeing 51 = .ok (.iload_n 2, 1) := by decide +kernel
theorem dX2_disagreeing_52 : decode cX2_disagreeing 52 = .ok (.aload_n 0, 1) := by decide +kernel
theorem dX2_disagreeing_53 : decode cX2_disagreeing 53 = .ok (.getfield 25, 3) := by decide +kernel
theorem dX2_disagreeing_56 : decode cX2_disagreeing 56 = .ok (.iconst (-1), 1) := by decide +kernel
theorem dX2_disagreeing_57 : decode cX2_disagreeing 57 = .ok (.if_icmp .eq 18, 3) := by decide +kernel
theorem dX2_disagreeing_60 : decode cX2_disagreeing 60 = .ok (.aload_n 1, 1) := by decide +kernel
theorem dX2_disagreeing_61 : decode cX2_disagreeing 61 = .ok (.getfield 38, 3) := by decide +kernel
theorem dX2_disagreeing_64 : decode cX2_disagreeing 64 = .ok (.aload_n 0, 1) := by decide +kernel
theorem dX2_disagreeing_65 : decode cX2_disagreeing 65 = .ok (.getfield 25, 3) := by decide +kernel
theorem dX2_disagreeing_68 : decode cX2_disagreeing 68 = .ok (.if_icmp .eq 7, 3) := by decide +kernel
theorem dX2_disagreeing_71 : decode cX2_disagreeing 71 = .ok (.iconst 1, 1) := by decide +kernel
theorem dX2_disagreeing_72 : decode cX2_disagreeing 72 = .ok (.goto 4, 3) := by decide +kernel
theorem dX2_disagreeing_75 : decode cX2_disagreeing 75 = .ok (.iconst 0, 1) := by decide +kernel
theorem dX2_disagreeing_76 : decode cX2_disagreeing 76 = .ok (.iadd, 1) := by decide +kernel
theorem dX2_disagreeing_77 : decode cX2_disagreeing 77 = .ok (.istore_n 2, 1) := by decide +kernel
theorem dX2_disagreeing_78 : decode cX2_disagreeing 78 = .ok (.iload_n 2, 1) := by decide +kernel
theorem dX2_disagreeing_79 : decode cX2_disagreeing 79 = .ok (.ireturn, 1) := by decide +kernel
theorem dX3_init_0 : decode cX3_init 0 = .ok (.aload_n 0, 1) := by decide +kernel
theorem dX3_init_1 : decode cX3_init 1 = .ok (.invokespecial 1, 3) := by decide +kernel
theorem dX3_init_4 : decode cX3_init 4 = .ok (.aload_n 0, 1) := by decide +kernel
theorem dX3_init_5 : decode cX3_init 5 = .ok (.iload_n 1, 1) := by decide +kernel
theorem dX3_init_6 : decode cX3_init 6 = .ok (.putfield 7, 3) := by decide +kernel
theorem dX3_init_9 : decode cX3_init 9 = .ok (.aload_n 0, 1) := by decide +kernel
theorem dX3_init_10 : decode cX3_init 10 = .ok (.iload_n 2, 1) := by decide +kernel
theorem dX3_init_11 : decode cX3_init 11 = .ok (.putfield 13, 3) := by decide +kernel
theorem dX3_init_14 : decode cX3_init 14 = .ok (.return_, 1) := by decide +kernel
theorem dX3_canBe_0 : decode cX3_canBe 0 = .ok (.iload_n 0, 1) := by decide +kernel
theorem dX3_canBe_1 : decode cX3_canBe 1 = .ok (.iconst 0, 1) := by decide +kernel
theorem dX3_canBe_2 : decode cX3_canBe 2 = .ok (.ldc 16, 2) := by decide +kernel
theorem dX3_canBe_4 : decode cX3_canBe 4 = .ok (.invokestatic 17, 3) := by decide +kernel
theorem dX3_canBe_7 : decode cX3_canBe 7 = .ok (.ifCond .eq 17, 3) := by decide +kernel
theorem dX3_canBe_10 : decode cX3_canBe 10 = .ok (.iload_n 1, 1) := by decide +kernel
theorem dX3_canBe_11 : decode cX3_canBe 11 = .ok (.iconst 0, 1) := by decide +kernel
theorem dX3_canBe_12 : decode cX3_canBe 12 = .ok (.ldc 16, 2) := by decide +kernel
theorem dX3_canBe_14 : decode cX3_canBe 14 = .ok (.invokestatic 17, 3) := by decide +kernel
theorem dX3_canBe_17 : decode cX3_canBe 17 = .ok (.ifCond .eq 7, 3) := by decide +kernel
theorem dX3_canBe_20 : decode cX3_canBe 20 = .ok (.iconst 1, 1) := by decide +kernel
theorem dX3_canBe_21 : decode cX3_canBe 21 = .ok (.goto 4, 3) := by decide +kernel
theorem dX3_canBe_24 : decode cX3_canBe 24 = .ok (.iconst 0, 1) := by decide +kernel
theorem dX3_canBe_25 : decode cX3_canBe 25 = .ok (.ireturn, 1) := by decide +kernel
theorem dX3_farOff_0 : decode cX3_farOff 0 = .ok (.aload_n 0, 1) := by decide +kernel
theorem dX3_farOff_1 : decode cX3_farOff 1 = .ok (.aload_n 1, 1) := by decide +kernel
theorem dX3_farOff_2 : decode cX3_farOff 2 = .ok (.getfield 7, 3) := by decide +kernel
theorem dX3_farOff_5 : decode cX3_farOff 5 = .ok (.aload_n 1, 1) := by decide +kernel
theorem dX3_farOff_6 : decode cX3_farOff 6 = .ok (.getfield 13, 3) := by decide +kernel
theorem dX3_farOff_9 : decode cX3_farOff 9 = .ok (.invokevirtual 23, 3) := by decide +kernel
theorem dX3_farOff_12 : decode cX3_farOff 12 = .ok (.istore_n 2, 1) := by decide +kernel
theorem dX3_farOff_13 : decode cX3_farOff 13 = .ok (.aload_n 0, 1) := by decide +kernel
theorem dX3_farOff_14 : decode cX3_farOff 14 = .ok (.aload_n 1, 1) := by decide +kernel
theorem dX3_farOff_15 : decode cX3_farOff 15 = .ok (.getfield 7, 3) := by decide +kernel
theorem dX3_farOff_18 : decode cX3_farOff 18 = .ok (.invokestatic 27, 3) := by decide +kernel
theorem dX3_farOff_21 : decode cX3_farOff 21 = .ok (.aload_n 1, 1) := by decide +kernel
theorem dX3_farOff_22 : decode cX3_farOff 22 = .ok (.getfield 13, 3) := by decide +kernel
theorem dX3_farOff_25 : decode cX3_farOff 25 = .ok (.invokestatic 27, 3) := by decide +kernel
theorem dX3_farOff_28 : decode cX3_farOff 28 = .ok (.invokevirtual 23, 3) := by decide +kernel
theorem dX3_farOff_31 : decode cX3_farOff 31 = .ok (.istore_n 3, 1) := by decide +kernel
theorem dX3_farOff_32 : decode cX3_farOff 32 = .ok (.iload_n 2, 1) := by decide +kernel
theorem dX3_farOff_33 : decode cX3_farOff 33 = .ok (.iload_n 3, 1) := by decide +kernel
theorem dX3_farOff_34 : decode cX3_farOff 34 = .ok (.invokestatic 31, 3) := by decide +kernel
theorem dX3_farOff_37 : decode cX3_farOff 37 = .ok (.ireturn, 1) := by decide +kernel
theorem dX3_unlike_0 : decode cX3_unlike 0 = .ok (.iconst 0, 1) := by decide +kernel
theorem dX3_unlike_1 : decode cX3_unlike 1 = .ok (.istore_n 3, 1) := by decide +kernel
theorem dX3_unlike_2 : decode cX3_unlike 2 = .ok (.iconst 0, 1) := by decide +kernel
theorem dX3_unlike_3 : decode cX3_unlike 3 = .ok (.istore 4, 2) := by decide +kernel
theorem dX3_unlike_5 : decode cX3_unlike 5 = .ok (.iload 4, 2) := by decide +kernel
theorem dX3_unlike_7 : decode cX3_unlike 7 = .ok (.bipush 8, 2) := by decide +kernel
theorem dX3_unlike_9 : decode cX3_unlike 9 = .ok (.if_icmp .ge 63, 3) := by decide +kernel
theorem dX3_unlike_12 : decode cX3_unlike 12 = .ok (.aload_n 0, 1) := by decide +kernel
theorem dX3_unlike_13 : decode cX3_unlike 13 = .ok (.getfield 7, 3) := by decide +kernel
theorem dX3_unlike_16 : decode cX3_unlike 16 = .ok (.iload 4, 2) := by decide +kernel
theorem dX3_unlike_18 : decode cX3_unlike 18 = .ok (.invokestatic 36, 3) := by decide +kernel
theorem dX3_unlike_21 : decode cX3_unlike 21 = .ok (.iload_n 1, 1) := by decide +kernel
theorem dX3_unlike_22 : decode cX3_unlike 22 = .ok (.iload 4, 2) := by decide +kernel
theorem dX3_unlike_24 : decode cX3_unlike 24 = .ok (.invokestatic 36, 3) := by decide +kernel
theorem dX3_unlike_27 : decode cX3_unlike 27 = .ok (.iadd, 1) := by decide +kernel
theorem dX3_unlike_28 : decode cX3_unlike 28 = .ok (.bipush 7, 2) := by decide +kernel
theorem dX3_unlike_30 : decode cX3_unlike 30 = .ok (.if_icmp .ne 7, 3) := by decide +kernel
theorem dX3_unlike_33 : decode cX3_unlike 33 = .ok (.iconst 1, 1) := by decide +kernel
theorem dX3_unlike_34 : decode cX3_unlike 34 = .ok (.goto 4, 3) := by decide +kernel
theorem dX3_unlike_37 : decode cX3_unlike 37 = .ok (.iconst 0, 1) := by decide +kernel
theorem dX3_unlike_38 : decode cX3_unlike 38 = .ok (.istore 5, 2) := by decide +kernel
theorem dX3_unlike_40 : decode cX3_unlike 40 = .ok (.iload 5, 2) := by decide +kernel
theorem dX3_unlike_42 : decode cX3_unlike 42 = .ok (.ifCond .eq 21, 3) := by decide +kernel
theorem dX3_unlike_45 : decode cX3_unlike 45 = .ok (.aload_n 0, 1) := by decide +kernel
theorem dX3_unlike_46 : decode cX3_unlike 46 = .ok (.getfield 13, 3) := by decide +kernel
theorem dX3_unlike_49 : decode cX3_unlike 49 = .ok (.iload 4, 2) := by decide +kernel
theorem dX3_unlike_51 : decode cX3_unlike 51 = .ok (.invokestatic 36, 3) := by decide +kernel
theorem dX3_unlike_54 : decode cX3_unlike 54 = .ok (.iload_n 2, 1) := by decide +kernel
theorem dX3_unlike_55 : decode cX3_unlike 55 = .ok (.iload 4, 2) := by decide +kernel
theorem dX3_unlike_57 : decode cX3_unlike 57 = .ok (.invokestatic 36, 3) := by decide +kernel
theorem dX3_unlike_60 : decode cX3_unlike 60 = .ok (.if_icmp .eq 6, 3) := by decide +kernel
theorem dX3_unlike_63 : decode cX3_unlike 63 = .ok (.iinc 3 1, 3) := by decide +kernel
theorem dX3_unlike_66 : decode cX3_unlike 66 = .ok (.iinc 4 1, 3) := by decide +kernel
theorem dX3_unlike_69 : decode cX3_unlike 69 = .ok (.goto (-64), 3) := by decide +kernel
theorem dX3_unlike_72 : decode cX3_unlike 72 = .ok (.iload_n 3, 1) := by decide +kernel
theorem dX3_unlike_73 : decode cX3_unlike 73 = .ok (.ireturn, 1) := by decide +kernel
theorem dX3_numberAt_0 : decode cX3_numberAt 0 = .ok (.iload_n 0, 1) := by decide +kernel
theorem dX3_numberAt_1 : decode cX3_numberAt 1 = .ok (.iconst 3, 1) := by decide +kernel
theorem dX3_numberAt_2 : decode cX3_numberAt 2 = .ok (.iload_n 1, 1) := by decide +kernel
theorem dX3_numberAt_3 : decode cX3_numberAt 3 = .ok (.imul, 1) := by decide +kernel
theorem dX3_numberAt_4 : decode cX3_numberAt 4 = .ok (.ishr, 1) := by decide +kernel
theorem dX3_numberAt_5 : decode cX3_numberAt 5 = .ok (.bipush 7, 2) := by decide +kernel
theorem dX3_numberAt_7 : decode cX3_numberAt 7 = .ok (.iand, 1) := by decide +kernel
theorem dX3_numberAt_8 : decode cX3_numberAt 8 = .ok (.ireturn, 1) := by decide +kernel
theorem dX3_turn_0 : decode cX3_turn 0 = .ok (.iconst 0, 1) := by decide +kernel
theorem dX3_turn_1 : decode cX3_turn 1 = .ok (.istore_n 1, 1) := by decide +kernel
theorem dX3_turn_2 : decode cX3_turn 2 = .ok (.iconst 0, 1) := by decide +kernel
theorem dX3_turn_3 : decode cX3_turn 3 = .ok (.istore_n 2, 1) := by decide +kernel
theorem dX3_turn_4 : decode cX3_turn 4 = .ok (.iload_n 2, 1) := by decide +kernel
theorem dX3_turn_5 : decode cX3_turn 5 = .ok (.bipush 8, 2) := by decide +kernel
theorem dX3_turn_7 : decode cX3_turn 7 = .ok (.if_icmp .ge 19, 3) := by decide +kernel
theorem dX3_turn_10 : decode cX3_turn 10 = .ok (.iload_n 1, 1) := by decide +kernel
theorem dX3_turn_11 : decode cX3_turn 11 = .ok (.iconst 3, 1) := by decide +kernel
theorem dX3_turn_12 : decode cX3_turn 12 = .ok (.ishl, 1) := by decide +kernel
theorem dX3_turn_13 : decode cX3_turn 13 = .ok (.iload_n 0, 1) := by decide +kernel
theorem dX3_turn_14 : decode cX3_turn 14 = .ok (.iload_n 2, 1) := by decide +kernel
theorem dX3_turn_15 : decode cX3_turn 15 = .ok (.invokestatic 36, 3) := by decide +kernel
theorem dX3_turn_18 : decode cX3_turn 18 = .ok (.ior, 1) := by decide +kernel
theorem dX3_turn_19 : decode cX3_turn 19 = .ok (.istore_n 1, 1) := by decide +kernel
theorem dX3_turn_20 : decode cX3_turn 20 = .ok (.iinc 2 1, 3) := by decide +kernel
theorem dX3_turn_23 : decode cX3_turn 23 = .ok (.goto (-19), 3) := by decide +kernel
theorem dX3_turn_26 : decode cX3_turn 26 = .ok (.iload_n 1, 1) := by decide +kernel
theorem dX3_turn_27 : decode cX3_turn 27 = .ok (.ireturn, 1) := by decide +kernel
theorem dX4_init_0 : decode cX4_init 0 = .ok (.aload_n 0, 1) := by decide +kernel
theorem dX4_init_1 : decode cX4_init 1 = .ok (.invokespecial 1, 3) := by decide +kernel
theorem dX4_init_4 : decode cX4_init 4 = .ok (.aload_n 0, 1) := by decide +kernel
theorem dX4_init_5 : decode cX4_init 5 = .ok (.iload_n 1, 1) := by decide +kernel
theorem dX4_init_6 : decode cX4_init 6 = .ok (.putfield 7, 3) := by decide +kernel
theorem dX4_init_9 : decode cX4_init 9 = .ok (.aload_n 0, 1) := by decide +kernel
theorem dX4_init_10 : decode cX4_init 10 = .ok (.aload_n 2, 1) := by decide +kernel
theorem dX4_init_11 : decode cX4_init 11 = .ok (.putfield 13, 3) := by decide +kernel
theorem dX4_init_14 : decode cX4_init 14 = .ok (.return_, 1) := by decide +kernel
theorem dX5_init_0 : decode cX5_init 0 = .ok (.aload_n 0, 1) := by decide +kernel
theorem dX5_init_1 : decode cX5_init 1 = .ok (.invokespecial 1, 3) := by decide +kernel
theorem dX5_init_4 : decode cX5_init 4 = .ok (.aload_n 0, 1) := by decide +kernel
theorem dX5_init_5 : decode cX5_init 5 = .ok (.iload_n 1, 1) := by decide +kernel
theorem dX5_init_6 : decode cX5_init 6 = .ok (.putfield 7, 3) := by decide +kernel
theorem dX5_init_9 : decode cX5_init 9 = .ok (.aload_n 0, 1) := by decide +kernel
theorem dX5_init_10 : decode cX5_init 10 = .ok (.iload_n 2, 1) := by decide +kernel
theorem dX5_init_11 : decode cX5_init 11 = .ok (.putfield 13, 3) := by decide +kernel
theorem dX5_init_14 : decode cX5_init 14 = .ok (.aload_n 0, 1) := by decide +kernel
theorem dX5_init_15 : decode cX5_init 15 = .ok (.iload_n 3, 1) := by decide +kernel
theorem dX5_init_16 : decode cX5_init 16 = .ok (.putfield 16, 3) := by decide +kernel
theorem dX5_init_19 : decode cX5_init 19 = .ok (.return_, 1) := by decide +kernel
theorem dX6_init_0 : decode cX6_init 0 = .ok (.aload_n 0, 1) := by decide +kernel
theorem dX6_init_1 : decode cX6_init 1 = .ok (.invokespecial 1, 3) := by decide +kernel
theorem dX6_init_4 : decode cX6_init 4 = .ok (.aload_n 0, 1) := by decide +kernel
theorem dX6_init_5 : decode cX6_init 5 = .ok (.iconst 2, 1) := by decide +kernel
theorem dX6_init_6 : decode cX6_init 6 = .ok (.putfield 9, 3) := by decide +kernel
theorem dX6_init_9 : decode cX6_init 9 = .ok (.return_, 1) := by decide +kernel
theorem dX7_init_0 : decode cX7_init 0 = .ok (.aload_n 0, 1) := by decide +kernel
theorem dX7_init_1 : decode cX7_init 1 = .ok (.invokespecial 3, 3) := by decide +kernel
theorem dX7_init_4 : decode cX7_init 4 = .ok (.aload_n 0, 1) := by decide +kernel
theorem dX7_init_5 : decode cX7_init 5 = .ok (.getstatic 9, 3) := by decide +kernel
theorem dX7_init_8 : decode cX7_init 8 = .ok (.arraylength, 1) := by decide +kernel
theorem dX7_init_9 : decode cX7_init 9 = .ok (.newarray .int, 2) := by decide +kernel
theorem dX7_init_11 : decode cX7_init 11 = .ok (.putfield 15, 3) := by decide +kernel
theorem dX7_init_14 : decode cX7_init 14 = .ok (.aload_n 0, 1) := by decide +kernel
theorem dX7_init_15 : decode cX7_init 15 = .ok (.aload_n 1, 1) := by decide +kernel
theorem dX7_init_16 : decode cX7_init 16 = .ok (.putfield 19, 3) := by decide +kernel
theorem dX7_init_19 : decode cX7_init 19 = .ok (.return_, 1) := by decide +kernel
theorem dX7_faultOf_0 : decode cX7_faultOf 0 = .ok (.aload_n 0, 1) := by decide +kernel
theorem dX7_faultOf_1 : decode cX7_faultOf 1 = .ok (.aload_n 1, 1) := by decide +kernel
theorem dX7_faultOf_2 : decode cX7_faultOf 2 = .ok (.invokevirtual 23, 3) := by decide +kernel
theorem dX7_faultOf_5 : decode cX7_faultOf 5 = .ok (.pop, 1) := by decide +kernel
theorem dX7_faultOf_6 : decode cX7_faultOf 6 = .ok (.aload_n 0, 1) := by decide +kernel
theorem dX7_faultOf_7 : decode cX7_faultOf 7 = .ok (.getfield 27, 3) := by decide +kernel
theorem dX7_faultOf_10 : decode cX7_faultOf 10 = .ok (.ireturn, 1) := by decide +kernel
theorem dX7_holds_0 : decode cX7_holds 0 = .ok (.aload_n 0, 1) := by decide +kernel
theorem dX7_holds_1 : decode cX7_holds 1 = .ok (.aload_n 1, 1) := by decide +kernel
theorem dX7_holds_2 : decode cX7_holds 2 = .ok (.putfield 19, 3) := by decide +kernel
theorem dX7_holds_5 : decode cX7_holds 5 = .ok (.aload_n 0, 1) := by decide +kernel
theorem dX7_holds_6 : decode cX7_holds 6 = .ok (.iconst 0, 1) := by decide +kernel
theorem dX7_holds_7 : decode cX7_holds 7 = .ok (.putfield 31, 3) := by decide +kernel
theorem dX7_holds_10 : decode cX7_holds 10 = .ok (.aload_n 0, 1) := by decide +kernel
theorem dX7_holds_11 : decode cX7_holds 11 = .ok (.iconst (-1), 1) := by decide +kernel
theorem dX7_holds_12 : decode cX7_holds 12 = .ok (.putfield 27, 3) := by decide +kernel
theorem dX7_holds_15 : decode cX7_holds 15 = .ok (.aload_n 0, 1) := by decide +kernel
theorem dX7_holds_16 : decode cX7_holds 16 = .ok (.iconst 0, 1) := by decide +kernel
theorem dX7_holds_17 : decode cX7_holds 17 = .ok (.invokevirtual 34, 3) := by decide +kernel
theorem dX7_holds_20 : decode cX7_holds 20 = .ok (.istore_n 2, 1) := by decide +kernel
theorem dX7_holds_21 : decode cX7_holds 21 = .ok (.aload_n 0, 1) := by decide +kernel
theorem dX7_holds_22 : decode cX7_holds 22 = .ok (.invokevirtual 38, 3) := by decide +kernel
theorem dX7_holds_25 : decode cX7_holds 25 = .ok (.iconst (-1), 1) := by decide +kernel
theorem dX7_holds_26 : decode cX7_holds 26 = .ok (.if_icmp .eq 7, 3) := by decide +kernel
theorem dX7_holds_29 : decode cX7_holds 29 = .ok (.aload_n 0, 1) := by decide +kernel
theorem dX7_holds_30 : decode cX7_holds 30 = .ok (.invokevirtual 42, 3) := by decide +kernel
theorem dX7_holds_33 : decode cX7_holds 33 = .ok (.iload_n 2, 1) := by decide +kernel
theorem dX7_holds_34 : decode cX7_holds 34 = .ok (.ifCond .eq 15, 3) := by decide +kernel
theorem dX7_holds_37 : decode cX7_holds 37 = .ok (.aload_n 0, 1) := by decide +kernel
theorem dX7_holds_38 : decode cX7_holds 38 = .ok (.getfield 27, 3) := by decide +kernel
theorem dX7_holds_41 : decode cX7_holds 41 = .ok (.iconst (-1), 1) := by decide +kernel
theorem dX7_holds_42 : decode cX7_holds 42 = .ok (.if_icmp .ne 7, 3) := by decide +kernel
theorem dX7_holds_45 : decode cX7_holds 45 = .ok (.iconst 1, 1) := by decide +kernel
theorem dX7_holds_46 : decode cX7_holds 46 = .ok (.goto 4, 3) := by decide +kernel
theorem dX7_holds_49 : decode cX7_holds 49 = .ok (.iconst 0, 1) := by decide +kernel
theorem dX7_holds_50 : decode cX7_holds 50 = .ok (.ireturn, 1) := by decide +kernel
theorem dX7_tests_0 : decode cX7_tests 0 = .ok (.aload_n 0, 1) := by decide +kernel
theorem dX7_tests_1 : decode cX7_tests 1 = .ok (.iload_n 1, 1) := by decide +kernel
theorem dX7_tests_2 : decode cX7_tests 2 = .ok (.invokevirtual 45, 3) := by decide +kernel
theorem dX7_tests_5 : decode cX7_tests 5 = .ok (.istore_n 2, 1) := by decide +kernel
theorem dX7_tests_6 : decode cX7_tests 6 = .ok (.iconst 0, 1) := by decide +kernel
theorem dX7_tests_7 : decode cX7_tests 7 = .ok (.istore_n 3, 1) := by decide +kernel
theorem dX7_tests_8 : decode cX7_tests 8 = .ok (.iload_n 3, 1) := by decide +kernel
theorem dX7_tests_9 : decode cX7_tests 9 = .ok (.bipush 100, 2) := by decide +kernel
theorem dX7_tests_11 : decode cX7_tests 11 = .ok (.if_icmp .ge 40, 3) := by decide +kernel
theorem dX7_tests_14 : decode cX7_tests 14 = .ok (.aload_n 0, 1) := by decide +kernel
theorem dX7_tests_15 : decode cX7_tests 15 = .ok (.bipush 124, 2) := by decide +kernel
theorem dX7_tests_17 : decode cX7_tests 17 = .ok (.invokevirtual 48, 3) := by decide +kernel
theorem dX7_tests_20 : decode cX7_tests 20 = .ok (.ifCond .eq 31, 3) := by decide +kernel
theorem dX7_tests_23 : decode cX7_tests 23 = .ok (.aload_n 0, 1) := by decide +kernel
theorem dX7_tests_24 : decode cX7_tests 24 = .ok (.iload_n 1, 1) := by decide +kernel
theorem dX7_tests_25 : decode cX7_tests 25 = .ok (.invokevirtual 45, 3) := by decide +kernel
theorem dX7_tests_28 : decode cX7_tests 28 = .ok (.istore 4, 2) := by decide +kernel
theorem dX7_tests_30 : decode cX7_tests 30 = .ok (.iload_n 2, 1) := by decide +kernel
theorem dX7_tests_31 : decode cX7_tests 31 = .ok (.ifCond .ne 8, 3) := by decide +kernel
theorem dX7_tests_34 : decode cX7_tests 34 = .ok (.iload 4, 2) := by decide +kernel
theorem dX7_tests_36 : decode cX7_tests 36 = .ok (.ifCond .eq 7, 3) := by decide +kernel
theorem dX7_tests_39 : decode cX7_tests 39 = .ok (.iconst 1, 1) := by decide +kernel
theorem dX7_tests_40 : decode cX7_tests 40 = .ok (.goto 4, 3) := by decide +kernel
theorem dX7_tests_43 : decode cX7_tests 43 = .ok (.iconst 0, 1) := by decide +kernel
theorem dX7_tests_44 : decode cX7_tests 44 = .ok (.istore_n 2, 1) := by decide +kernel
theorem dX7_tests_45 : decode cX7_tests 45 = .ok (.iinc 3 1, 3) := by decide +kernel
theorem dX7_tests_48 : decode cX7_tests 48 = .ok (.goto (-40), 3) := by decide +kernel
theorem dX7_tests_51 : decode cX7_tests 51 = .ok (.iload_n 2, 1) := by decide +kernel
theorem dX7_tests_52 : decode cX7_tests 52 = .ok (.ireturn, 1) := by decide +kernel
theorem dX7_part_0 : decode cX7_part 0 = .ok (.aload_n 0, 1) := by decide +kernel
theorem dX7_part_1 : decode cX7_part 1 = .ok (.iload_n 1, 1) := by decide +kernel
theorem dX7_part_2 : decode cX7_part 2 = .ok (.invokevirtual 52, 3) := by decide +kernel
theorem dX7_part_5 : decode cX7_part 5 = .ok (.istore_n 2, 1) := by decide +kernel
theorem dX7_part_6 : decode cX7_part 6 = .ok (.iconst 0, 1) := by decide +kernel
theorem dX7_part_7 : decode cX7_part 7 = .ok (.istore_n 3, 1) := by decide +kernel
theorem dX7_part_8 : decode cX7_part 8 = .ok (.iload_n 3, 1) := by decide +kernel
theorem dX7_part_9 : decode cX7_part 9 = .ok (.bipush 100, 2) := by decide +kernel
theorem dX7_part_11 : decode cX7_part 11 = .ok (.if_icmp .ge 40, 3) := by decide +kernel
theorem dX7_part_14 : decode cX7_part 14 = .ok (.aload_n 0, 1) := by decide +kernel
theorem dX7_part_15 : decode cX7_part 15 = .ok (.bipush 38, 2) := by decide +kernel
theorem dX7_part_17 : decode cX7_part 17 = .ok (.invokevirtual 48, 3) := by decide +kernel
theorem dX7_part_20 : decode cX7_part 20 = .ok (.ifCond .eq 31, 3) := by decide +kernel
theorem dX7_part_23 : decode cX7_part 23 = .ok (.aload_n 0, 1) := by decide +kernel
theorem dX7_part_24 : decode cX7_part 24 = .ok (.iload_n 1, 1) := by decide +kernel
theorem dX7_part_25 : decode cX7_part 25 = .ok (.invokevirtual 52, 3) := by decide +kernel
theorem dX7_part_28 : decode cX7_part 28 = .ok (.istore 4, 2) := by decide +kernel
theorem dX7_part_30 : decode cX7_part 30 = .ok (.iload_n 2, 1) := by decide +kernel
theorem dX7_part_31 : decode cX7_part 31 = .ok (.ifCond .eq 12, 3) := by decide +kernel
theorem dX7_part_34 : decode cX7_part 34 = .ok (.iload 4, 2) := by decide +kernel
theorem dX7_part_36 : decode cX7_part 36 = .ok (.ifCond .eq 7, 3) := by decide +kernel
theorem dX7_part_39 : decode cX7_part 39 = .ok (.iconst 1, 1) := by decide +kernel
theorem dX7_part_40 : decode cX7_part 40 = .ok (.goto 4, 3) := by decide +kernel
theorem dX7_part_43 : decode cX7_part 43 = .ok (.iconst 0, 1) := by decide +kernel
theorem dX7_part_44 : decode cX7_part 44 = .ok (.istore_n 2, 1) := by decide +kernel
theorem dX7_part_45 : decode cX7_part 45 = .ok (.iinc 3 1, 3) := by decide +kernel
theorem dX7_part_48 : decode cX7_part 48 = .ok (.goto (-40), 3) := by decide +kernel
theorem dX7_part_51 : decode cX7_part 51 = .ok (.iload_n 2, 1) := by decide +kernel
theorem dX7_part_52 : decode cX7_part 52 = .ok (.ireturn, 1) := by decide +kernel
theorem dX7_unit_0 : decode cX7_unit 0 = .ok (.aload_n 0, 1) := by decide +kernel
theorem dX7_unit_1 : decode cX7_unit 1 = .ok (.invokevirtual 38, 3) := by decide +kernel
theorem dX7_unit_4 : decode cX7_unit 4 = .ok (.bipush 40, 2) := by decide +kernel
theorem dX7_unit_6 : decode cX7_unit 6 = .ok (.if_icmp .eq 8, 3) := by decide +kernel
theorem dX7_unit_9 : decode cX7_unit 9 = .ok (.aload_n 0, 1) := by decide +kernel
theorem dX7_unit_10 : decode cX7_unit 10 = .ok (.invokevirtual 55, 3) := by decide +kernel
theorem dX7_unit_13 : decode cX7_unit 13 = .ok (.ireturn, 1) := by decide +kernel
theorem dX7_unit_14 : decode cX7_unit 14 = .ok (.iload_n 1, 1) := by decide +kernel
theorem dX7_unit_15 : decode cX7_unit 15 = .ok (.bipush 8, 2) := by decide +kernel
theorem dX7_unit_17 : decode cX7_unit 17 = .ok (.if_icmp .lt 9, 3) := by decide +kernel
theorem dX7_unit_20 : decode cX7_unit 20 = .ok (.aload_n 0, 1) := by decide +kernel
theorem dX7_unit_21 : decode cX7_unit 21 = .ok (.invokevirtual 42, 3) := by decide +kernel
theorem dX7_unit_24 : decode cX7_unit 24 = .ok (.iconst 0, 1) := by decide +kernel
theorem dX7_unit_25 : decode cX7_unit 25 = .ok (.ireturn, 1) := by decide +kernel
theorem dX7_unit_26 : decode cX7_unit 26 = .ok (.aload_n 0, 1) := by decide +kernel
theorem dX7_unit_27 : decode cX7_unit 27 = .ok (.dup, 1) := by decide +kernel
theorem dX7_unit_28 : decode cX7_unit 28 = .ok (.getfield 31, 3) := by decide +kernel
theorem dX7_unit_31 : decode cX7_unit 31 = .ok (.iconst 1, 1) := by decide +kernel
theorem dX7_unit_32 : decode cX7_unit 32 = .ok (.iadd, 1) := by decide +kernel
theorem dX7_unit_33 : decode cX7_unit 33 = .ok (.putfield 31, 3) := by decide +kernel
theorem dX7_unit_36 : decode cX7_unit 36 = .ok (.aload_n 0, 1) := by decide +kernel
theorem dX7_unit_37 : decode cX7_unit 37 = .ok (.iload_n 1, 1) := by decide +kernel
theorem dX7_unit_38 : decode cX7_unit 38 = .ok (.iconst 1, 1) := by decide +kernel
theorem dX7_unit_39 : decode cX7_unit 39 = .ok (.iadd, 1) := by decide +kernel
theorem dX7_unit_40 : decode cX7_unit 40 = .ok (.invokevirtual 34, 3) := by decide +kernel
theorem dX7_unit_43 : decode cX7_unit 43 = .ok (.istore_n 2, 1) := by decide +kernel
theorem dX7_unit_44 : decode cX7_unit 44 = .ok (.aload_n 0, 1) := by decide +kernel
theorem dX7_unit_45 : decode cX7_unit 45 = .ok (.bipush 41, 2) := by decide +kernel
theorem dX7_unit_47 : decode cX7_unit 47 = .ok (.invokevirtual 48, 3) := by decide +kernel
theorem dX7_unit_50 : decode cX7_unit 50 = .ok (.ifCond .ne 7, 3) := by decide +kernel
theorem dX7_unit_53 : decode cX7_unit 53 = .ok (.aload_n 0, 1) := by decide +kernel
theorem dX7_unit_54 : decode cX7_unit 54 = .ok (.invokevirtual 42, 3) := by decide +kernel
theorem dX7_unit_57 : decode cX7_unit 57 = .ok (.iload_n 2, 1) := by decide +kernel
theorem dX7_unit_58 : decode cX7_unit 58 = .ok (.ireturn, 1) := by decide +kernel
theorem dX7_test_0 : decode cX7_test 0 = .ok (.aload_n 0, 1) := by decide +kernel
theorem dX7_test_1 : decode cX7_test 1 = .ok (.invokevirtual 59, 3) := by decide +kernel
theorem dX7_test_4 : decode cX7_test 4 = .ok (.istore_n 1, 1) := by decide +kernel
theorem dX7_test_5 : decode cX7_test 5 = .ok (.aload_n 0, 1) := by decide +kernel
theorem dX7_test_6 : decode cX7_test 6 = .ok (.bipush 61, 2) := by decide +kernel
theorem dX7_test_8 : decode cX7_test 8 = .ok (.invokevirtual 48, 3) := by decide +kernel
theorem dX7_test_11 : decode cX7_test 11 = .ok (.ifCond .eq 17, 3) := by decide +kernel
theorem dX7_test_14 : decode cX7_test 14 = .ok (.iload_n 1, 1) := by decide +kernel
theorem dX7_test_15 : decode cX7_test 15 = .ok (.aload_n 0, 1) := by decide +kernel
theorem dX7_test_16 : decode cX7_test 16 = .ok (.invokevirtual 62, 3) := by decide +kernel
theorem dX7_test_19 : decode cX7_test 19 = .ok (.if_icmp .ne 7, 3) := by decide +kernel
theorem dX7_test_22 : decode cX7_test 22 = .ok (.iconst 1, 1) := by decide +kernel
theorem dX7_test_23 : decode cX7_test 23 = .ok (.goto 4, 3) := by decide +kernel
theorem dX7_test_26 : decode cX7_test 26 = .ok (.iconst 0, 1) := by decide +kernel
theorem dX7_test_27 : decode cX7_test 27 = .ok (.ireturn, 1) := by decide +kernel
theorem dX7_test_28 : decode cX7_test 28 = .ok (.aload_n 0, 1) := by decide +kernel
theorem dX7_test_29 : decode cX7_test 29 = .ok (.bipush 60, 2) := by decide +kernel
theorem dX7_test_31 : decode cX7_test 31 = .ok (.invokevirtual 48, 3) := by decide +kernel
theorem dX7_test_34 : decode cX7_test 34 = .ok (.ifCond .eq 17, 3) := by decide +kernel
theorem dX7_test_37 : decode cX7_test 37 = .ok (.iload_n 1, 1) := by decide +kernel
theorem dX7_test_38 : decode cX7_test 38 = .ok (.aload_n 0, 1) := by decide +kernel
theorem dX7_test_39 : decode cX7_test 39 = .ok (.invokevirtual 62, 3) := by decide +kernel
theorem dX7_test_42 : decode cX7_test 42 = .ok (.if_icmp .ge 7, 3) := by decide +kernel
theorem dX7_test_45 : decode cX7_test 45 = .ok (.iconst 1, 1) := by decide +kernel
theorem dX7_test_46 : decode cX7_test 46 = .ok (.goto 4, 3) := by decide +kernel
theorem dX7_test_49 : decode cX7_test 49 = .ok (.iconst 0, 1) := by decide +kernel
theorem dX7_test_50 : decode cX7_test 50 = .ok (.ireturn, 1) := by decide +kernel
theorem dX7_test_51 : decode cX7_test 51 = .ok (.aload_n 0, 1) := by decide +kernel
theorem dX7_test_52 : decode cX7_test 52 = .ok (.bipush 62, 2) := by decide +kernel
theorem dX7_test_54 : decode cX7_test 54 = .ok (.invokevirtual 48, 3) := by decide +kernel
theorem dX7_test_57 : decode cX7_test 57 = .ok (.ifCond .eq 17, 3) := by decide +kernel
theorem dX7_test_60 : decode cX7_test 60 = .ok (.iload_n 1, 1) := by decide +kernel
theorem dX7_test_61 : decode cX7_test 61 = .ok (.aload_n 0, 1) := by decide +kernel
theorem dX7_test_62 : decode cX7_test 62 = .ok (.invokevirtual 62, 3) := by decide +kernel
theorem dX7_test_65 : decode cX7_test 65 = .ok (.if_icmp .le 7, 3) := by decide +kernel
theorem dX7_test_68 : decode cX7_test 68 = .ok (.iconst 1, 1) := by decide +kernel
theorem dX7_test_69 : decode cX7_test 69 = .ok (.goto 4, 3) := by decide +kernel
theorem dX7_test_72 : decode cX7_test 72 = .ok (.iconst 0, 1) := by decide +kernel
theorem dX7_test_73 : decode cX7_test 73 = .ok (.ireturn, 1) := by decide +kernel
theorem dX7_test_74 : decode cX7_test 74 = .ok (.aload_n 0, 1) := by decide +kernel
theorem dX7_test_75 : decode cX7_test 75 = .ok (.invokevirtual 42, 3) := by decide +kernel
theorem dX7_test_78 : decode cX7_test 78 = .ok (.iconst 0, 1) := by decide +kernel
theorem dX7_test_79 : decode cX7_test 79 = .ok (.ireturn, 1) := by decide +kernel
theorem dX7_letterValue_0 : decode cX7_letterValue 0 = .ok (.aload_n 0, 1) := by decide +kernel
theorem dX7_letterValue_1 : decode cX7_letterValue 1 = .ok (.invokevirtual 38, 3) := by decide +kernel
theorem dX7_letterValue_4 : decode cX7_letterValue 4 = .ok (.istore_n 1, 1) := by decide +kernel
theorem dX7_letterValue_5 : decode cX7_letterValue 5 = .ok (.iconst 0, 1) := by decide +kernel
theorem dX7_letterValue_6 : decode cX7_letterValue 6 = .ok (.istore_n 2, 1) := by decide +kernel
theorem dX7_letterValue_7 : decode cX7_letterValue 7 = .ok (.iload_n 2, 1) := by decide +kernel
theorem dX7_letterValue_8 : decode cX7_letterValue 8 = .ok (.getstatic 9, 3) := by decide +kernel
theorem dX7_letterValue_11 : decode cX7_letterValue 11 = .ok (.arraylength, 1) := by decide +kernel
theorem dX7_letterValue_12 : decode cX7_letterValue 12 = .ok (.if_icmp .ge 35, 3) := by decide +kernel
theorem dX7_letterValue_15 : decode cX7_letterValue 15 = .ok (.getstatic 9, 3) := by decide +kernel
theorem dX7_letterValue_18 : decode cX7_letterValue 18 = .ok (.iload_n 2, 1) := by decide +kernel
theorem dX7_letterValue_19 : decode cX7_letterValue 19 = .ok (.caload, 1) := by decide +kernel
theorem dX7_letterValue_20 : decode cX7_letterValue 20 = .ok (.iload_n 1, 1) := by decide +kernel
theorem dX7_letterValue_21 : decode cX7_letterValue 21 = .ok (.if_icmp .ne 20, 3) := by decide +kernel
theorem dX7_letterValue_24 : decode cX7_letterValue 24 = .ok (.aload_n 0, 1) := by decide +kernel
theorem dX7_letterValue_25 : decode cX7_letterValue 25 = .ok (.dup, 1) := by decide +kernel
theorem dX7_letterValue_26 : decode cX7_letterValue 26 = .ok (.getfield 31, 3) := by decide +kernel
theorem dX7_letterValue_29 : decode cX7_letterValue 29 = .ok (.iconst 1, 1) := by decide +kernel
theorem dX7_letterValue_30 : decode cX7_letterValue 30 = .ok (.iadd, 1) := by decide +kernel
theorem dX7_letterValue_31 : decode cX7_letterValue 31 = .ok (.putfield 31, 3) := by decide +kernel
theorem dX7_letterValue_34 : decode cX7_letterValue 34 = .ok (.aload_n 0, 1) := by decide +kernel
theorem dX7_letterValue_35 : decode cX7_letterValue 35 = .ok (.getfield 15, 3) := by decide +kernel
theorem dX7_letterValue_38 : decode cX7_letterValue 38 = .ok (.iload_n 2, 1) := by decide +kernel
theorem dX7_letterValue_39 : decode cX7_letterValue 39 = .ok (.iaload, 1) := by decide +kernel
theorem dX7_letterValue_40 : decode cX7_letterValue 40 = .ok (.ireturn, 1) := by decide +kernel
theorem dX7_letterValue_41 : decode cX7_letterValue 41 = .ok (.iinc 2 1, 3) := by decide +kernel
theorem dX7_letterValue_44 : decode cX7_letterValue 44 = .ok (.goto (-37), 3) := by decide +kernel
theorem dX7_letterValue_47 : decode cX7_letterValue 47 = .ok (.aload_n 0, 1) := by decide +kernel
theorem dX7_letterValue_48 : decode cX7_letterValue 48 = .ok (.invokevirtual 42, 3) := by decide +kernel
theorem dX7_letterValue_51 : decode cX7_letterValue 51 = .ok (.iconst 0, 1) := by decide +kernel
theorem dX7_letterValue_52 : decode cX7_letterValue 52 = .ok (.ireturn, 1) := by decide +kernel
theorem dX7_number_0 : decode cX7_number 0 = .ok (.aload_n 0, 1) := by decide +kernel
theorem dX7_number_1 : decode cX7_number 1 = .ok (.invokevirtual 38, 3) := by decide +kernel
theorem dX7_number_4 : decode cX7_number 4 = .ok (.invokestatic 65, 3) := by decide +kernel
theorem dX7_number_7 : decode cX7_number 7 = .ok (.ifCond .ne 9, 3) := by decide +kernel
theorem dX7_number_10 : decode cX7_number 10 = .ok (.aload_n 0, 1) := by decide +kernel
theorem dX7_number_11 : decode cX7_number 11 = .ok (.invokevirtual 42, 3) := by decide +kernel
theorem dX7_number_14 : decode cX7_number 14 = .ok (.iconst 0, 1) := by decide +kernel
theorem dX7_number_15 : decode cX7_number 15 = .ok (.ireturn, 1) := by decide +kernel
theorem dX7_number_16 : decode cX7_number 16 = .ok (.iconst 0, 1) := by decide +kernel
theorem dX7_number_17 : decode cX7_number 17 = .ok (.istore_n 1, 1) := by decide +kernel
theorem dX7_number_18 : decode cX7_number 18 = .ok (.iconst 0, 1) := by decide +kernel
theorem dX7_number_19 : decode cX7_number 19 = .ok (.istore_n 2, 1) := by decide +kernel
theorem dX7_number_20 : decode cX7_number 20 = .ok (.iload_n 2, 1) := by decide +kernel
theorem dX7_number_21 : decode cX7_number 21 = .ok (.iconst 4, 1) := by decide +kernel
theorem dX7_number_22 : decode cX7_number 22 = .ok (.if_icmp .ge 56, 3) := by decide +kernel
theorem dX7_number_25 : decode cX7_number 25 = .ok (.aload_n 0, 1) := by decide +kernel
theorem dX7_number_26 : decode cX7_number 26 = .ok (.getfield 19, 3) := by decide +kernel
theorem dX7_number_29 : decode cX7_number 29 = .ok (.aload_n 0, 1) := by decide +kernel
theorem dX7_number_30 : decode cX7_number 30 = .ok (.getfield 31, 3) := by decide +kernel
theorem dX7_number_33 : decode cX7_number 33 = .ok (.invokevirtual 68, 3) := by decide +kernel
theorem dX7_number_36 : decode cX7_number 36 = .ok (.invokestatic 65, 3) := by decide +kernel
theorem dX7_number_39 : decode cX7_number 39 = .ok (.ifCond .eq 39, 3) := by decide +kernel
theorem dX7_number_42 : decode cX7_number 42 = .ok (.bipush 10, 2) := by decide +kernel
theorem dX7_number_44 : decode cX7_number 44 = .ok (.iload_n 1, 1) := by decide +kernel
theorem dX7_number_45 : decode cX7_number 45 = .ok (.imul, 1) := by decide +kernel
theorem dX7_number_46 : decode cX7_number 46 = .ok (.aload_n 0, 1) := by decide +kernel
theorem dX7_number_47 : decode cX7_number 47 = .ok (.getfield 19, 3) := by decide +kernel
theorem dX7_number_50 : decode cX7_number 50 = .ok (.aload_n 0, 1) := by decide +kernel
theorem dX7_number_51 : decode cX7_number 51 = .ok (.getfield 31, 3) := by decide +kernel
theorem dX7_number_54 : decode cX7_number 54 = .ok (.invokevirtual 68, 3) := by decide +kernel
theorem dX7_number_57 : decode cX7_number 57 = .ok (.iadd, 1) := by decide +kernel
theorem dX7_number_58 : decode cX7_number 58 = .ok (.bipush 48, 2) := by decide +kernel
theorem dX7_number_60 : decode cX7_number 60 = .ok (.isub, 1) := by decide +kernel
theorem dX7_number_61 : decode cX7_number 61 = .ok (.istore_n 1, 1) := by decide +kernel
theorem dX7_number_62 : decode cX7_number 62 = .ok (.aload_n 0, 1) := by decide +kernel
theorem dX7_number_63 : decode cX7_number 63 = .ok (.dup, 1) := by decide +kernel
theorem dX7_number_64 : decode cX7_number 64 = .ok (.getfield 31, 3) := by decide +kernel
theorem dX7_number_67 : decode cX7_number 67 = .ok (.iconst 1, 1) := by decide +kernel
theorem dX7_number_68 : decode cX7_number 68 = .ok (.iadd, 1) := by decide +kernel
theorem dX7_number_69 : decode cX7_number 69 = .ok (.putfield 31, 3) := by decide +kernel
theorem dX7_number_72 : decode cX7_number 72 = .ok (.iinc 2 1, 3) := by decide +kernel
theorem dX7_number_75 : decode cX7_number 75 = .ok (.goto (-55), 3) := by decide +kernel
theorem dX7_number_78 : decode cX7_number 78 = .ok (.iload_n 1, 1) := by decide +kernel
theorem dX7_number_79 : decode cX7_number 79 = .ok (.ireturn, 1) := by decide +kernel
theorem dX7_isDigit_0 : decode cX7_isDigit 0 = .ok (.iload_n 0, 1) := by decide +kernel
theorem dX7_isDigit_1 : decode cX7_isDigit 1 = .ok (.bipush 48, 2) := by decide +kernel
theorem dX7_isDigit_3 : decode cX7_isDigit 3 = .ok (.if_icmp .lt 13, 3) := by decide +kernel
theorem dX7_isDigit_6 : decode cX7_isDigit 6 = .ok (.iload_n 0, 1) := by decide +kernel
theorem dX7_isDigit_7 : decode cX7_isDigit 7 = .ok (.bipush 57, 2) := by decide +kernel
theorem dX7_isDigit_9 : decode cX7_isDigit 9 = .ok (.if_icmp .gt 7, 3) := by decide +kernel
theorem dX7_isDigit_12 : decode cX7_isDigit 12 = .ok (.iconst 1, 1) := by decide +kernel
theorem dX7_isDigit_13 : decode cX7_isDigit 13 = .ok (.goto 4, 3) := by decide +kernel
theorem dX7_isDigit_16 : decode cX7_isDigit 16 = .ok (.iconst 0, 1) := by decide +kernel
theorem dX7_isDigit_17 : decode cX7_isDigit 17 = .ok (.ireturn, 1) := by decide +kernel
theorem dX7_take_0 : decode cX7_take 0 = .ok (.aload_n 0, 1) := by decide +kernel
theorem dX7_take_1 : decode cX7_take 1 = .ok (.invokevirtual 38, 3) := by decide +kernel
theorem dX7_take_4 : decode cX7_take 4 = .ok (.iload_n 1, 1) := by decide +kernel
theorem dX7_take_5 : decode cX7_take 5 = .ok (.if_icmp .ne 7, 3) := by decide +kernel
theorem dX7_take_8 : decode cX7_take 8 = .ok (.iconst 1, 1) := by decide +kernel
theorem dX7_take_9 : decode cX7_take 9 = .ok (.goto 4, 3) := by decide +kernel
theorem dX7_take_12 : decode cX7_take 12 = .ok (.iconst 0, 1) := by decide +kernel
theorem dX7_take_13 : decode cX7_take 13 = .ok (.istore_n 2, 1) := by decide +kernel
theorem dX7_take_14 : decode cX7_take 14 = .ok (.aload_n 0, 1) := by decide +kernel
theorem dX7_take_15 : decode cX7_take 15 = .ok (.dup, 1) := by decide +kernel
theorem dX7_take_16 : decode cX7_take 16 = .ok (.getfield 31, 3) := by decide +kernel
theorem dX7_take_19 : decode cX7_take 19 = .ok (.iload_n 2, 1) := by decide +kernel
theorem dX7_take_20 : decode cX7_take 20 = .ok (.ifCond .eq 7, 3) := by decide +kernel
theorem dX7_take_23 : decode cX7_take 23 = .ok (.iconst 1, 1) := by decide +kernel
theorem dX7_take_24 : decode cX7_take 24 = .ok (.goto 4, 3) := by decide +kernel
theorem dX7_take_27 : decode cX7_take 27 = .ok (.iconst 0, 1) := by decide +kernel
theorem dX7_take_28 : decode cX7_take 28 = .ok (.iadd, 1) := by decide +kernel
theorem dX7_take_29 : decode cX7_take 29 = .ok (.putfield 31, 3) := by decide +kernel
theorem dX7_take_32 : decode cX7_take 32 = .ok (.iload_n 2, 1) := by decide +kernel
theorem dX7_take_33 : decode cX7_take 33 = .ok (.ireturn, 1) := by decide +kernel
theorem dX7_next_0 : decode cX7_next 0 = .ok (.aload_n 0, 1) := by decide +kernel
theorem dX7_next_1 : decode cX7_next 1 = .ok (.getfield 31, 3) := by decide +kernel
theorem dX7_next_4 : decode cX7_next 4 = .ok (.aload_n 0, 1) := by decide +kernel
theorem dX7_next_5 : decode cX7_next 5 = .ok (.getfield 19, 3) := by decide +kernel
theorem dX7_next_8 : decode cX7_next 8 = .ok (.getfield 74, 3) := by decide +kernel
theorem dX7_next_11 : decode cX7_next 11 = .ok (.if_icmp .ge 32, 3) := by decide +kernel
theorem dX7_next_14 : decode cX7_next 14 = .ok (.aload_n 0, 1) := by decide +kernel
theorem dX7_next_15 : decode cX7_next 15 = .ok (.getfield 19, 3) := by decide +kernel
theorem dX7_next_18 : decode cX7_next 18 = .ok (.aload_n 0, 1) := by decide +kernel
theorem dX7_next_19 : decode cX7_next 19 = .ok (.getfield 31, 3) := by decide +kernel
theorem dX7_next_22 : decode cX7_next 22 = .ok (.invokevirtual 68, 3) := by decide +kernel
theorem dX7_next_25 : decode cX7_next 25 = .ok (.bipush 32, 2) := by decide +kernel
theorem dX7_next_27 : decode cX7_next 27 = .ok (.if_icmp .ne 16, 3) := by decide +kernel
theorem dX7_next_30 : decode cX7_next 30 = .ok (.aload_n 0, 1) := by decide +kernel
theorem dX7_next_31 : decode cX7_next 31 = .ok (.dup, 1) := by decide +kernel
theorem dX7_next_32 : decode cX7_next 32 = .ok (.getfield 31, 3) := by decide +kernel
theorem dX7_next_35 : decode cX7_next 35 = .ok (.iconst 1, 1) := by decide +kernel
theorem dX7_next_36 : decode cX7_next 36 = .ok (.iadd, 1) := by decide +kernel
theorem dX7_next_37 : decode cX7_next 37 = .ok (.putfield 31, 3) := by decide +kernel
theorem dX7_next_40 : decode cX7_next 40 = .ok (.goto (-40), 3) := by decide +kernel
theorem dX7_next_43 : decode cX7_next 43 = .ok (.aload_n 0, 1) := by decide +kernel
theorem dX7_next_44 : decode cX7_next 44 = .ok (.getfield 27, 3) := by decide +kernel
theorem dX7_next_47 : decode cX7_next 47 = .ok (.iconst (-1), 1) := by decide +kernel
theorem dX7_next_48 : decode cX7_next 48 = .ok (.if_icmp .ne 17, 3) := by decide +kernel
theorem dX7_next_51 : decode cX7_next 51 = .ok (.aload_n 0, 1) := by decide +kernel
theorem dX7_next_52 : decode cX7_next 52 = .ok (.getfield 19, 3) := by decide +kernel
theorem dX7_next_55 : decode cX7_next 55 = .ok (.aload_n 0, 1) := by decide +kernel
theorem dX7_next_56 : decode cX7_next 56 = .ok (.getfield 31, 3) := by decide +kernel
theorem dX7_next_59 : decode cX7_next 59 = .ok (.invokevirtual 68, 3) := by decide +kernel
theorem dX7_next_62 : decode cX7_next 62 = .ok (.goto 4, 3) := by decide +kernel
theorem dX7_next_65 : decode cX7_next 65 = .ok (.iconst (-1), 1) := by decide +kernel
theorem dX7_next_66 : decode cX7_next 66 = .ok (.ireturn, 1) := by decide +kernel
theorem dX7_fail_0 : decode cX7_fail 0 = .ok (.aload_n 0, 1) := by decide +kernel
theorem dX7_fail_1 : decode cX7_fail 1 = .ok (.getfield 27, 3) := by decide +kernel
theorem dX7_fail_4 : decode cX7_fail 4 = .ok (.iconst (-1), 1) := by decide +kernel
theorem dX7_fail_5 : decode cX7_fail 5 = .ok (.if_icmp .ne 11, 3) := by decide +kernel
theorem dX7_fail_8 : decode cX7_fail 8 = .ok (.aload_n 0, 1) := by decide +kernel
theorem dX7_fail_9 : decode cX7_fail 9 = .ok (.aload_n 0, 1) := by decide +kernel
theorem dX7_fail_10 : decode cX7_fail 10 = .ok (.getfield 31, 3) := by decide +kernel
theorem dX7_fail_13 : decode cX7_fail 13 = .ok (.putfield 27, 3) := by decide +kernel
theorem dX7_fail_16 : decode cX7_fail 16 = .ok (.return_, 1) := by decide +kernel
theorem dX8_init_0 : decode cX8_init 0 = .ok (.aload_n 0, 1) := by decide +kernel
theorem dX8_init_1 : decode cX8_init 1 = .ok (.invokespecial 3, 3) := by decide +kernel
theorem dX8_init_4 : decode cX8_init 4 = .ok (.aload_n 0, 1) := by decide +kernel
theorem dX8_init_5 : decode cX8_init 5 = .ok (.bipush 100, 2) := by decide +kernel
theorem dX8_init_7 : decode cX8_init 7 = .ok (.newarray .byte, 2) := by decide +kernel
theorem dX8_init_9 : decode cX8_init 9 = .ok (.putfield 9, 3) := by decide +kernel
theorem dX8_init_12 : decode cX8_init 12 = .ok (.return_, 1) := by decide +kernel
theorem dX8_add_0 : decode cX8_add 0 = .ok (.iload_n 1, 1) := by decide +kernel
theorem dX8_add_1 : decode cX8_add 1 = .ok (.ifCond .eq 36, 3) := by decide +kernel
theorem dX8_add_4 : decode cX8_add 4 = .ok (.aload_n 0, 1) := by decide +kernel
theorem dX8_add_5 : decode cX8_add 5 = .ok (.getfield 15, 3) := by decide +kernel
theorem dX8_add_8 : decode cX8_add 8 = .ok (.aload_n 0, 1) := by decide +kernel
theorem dX8_add_9 : decode cX8_add 9 = .ok (.getfield 9, 3) := by decide +kernel
theorem dX8_add_12 : decode cX8_add 12 = .ok (.arraylength, 1) := by decide +kernel
theorem dX8_add_13 : decode cX8_add 13 = .ok (.if_icmp .ge 24, 3) := by decide +kernel
theorem dX8_add_16 : decode cX8_add 16 = .ok (.aload_n 0, 1) := by decide +kernel
theorem dX8_add_17 : decode cX8_add 17 = .ok (.getfield 9, 3) := by decide +kernel
theorem dX8_add_20 : decode cX8_add 20 = .ok (.aload_n 0, 1) := by decide +kernel
theorem dX8_add_21 : decode cX8_add 21 = .ok (.getfield 15, 3) := by decide +kernel
theorem dX8_add_24 : decode cX8_add 24 = .ok (.iload_n 1, 1) := by decide +kernel
theorem dX8_add_25 : decode cX8_add 25 = .ok (.i2b, 1) := by decide +kernel
theorem dX8_add_26 : decode cX8_add 26 = .ok (.bastore, 1) := by decide +kernel
theorem dX8_add_27 : decode cX8_add 27 = .ok (.aload_n 0, 1) := by decide +kernel
theorem dX8_add_28 : decode cX8_add 28 = .ok (.dup, 1) := by decide +kernel
theorem dX8_add_29 : decode cX8_add 29 = .ok (.getfield 15, 3) := by decide +kernel
theorem dX8_add_32 : decode cX8_add 32 = .ok (.iconst 1, 1) := by decide +kernel
theorem dX8_add_33 : decode cX8_add 33 = .ok (.iadd, 1) := by decide +kernel
theorem dX8_add_34 : decode cX8_add 34 = .ok (.putfield 15, 3) := by decide +kernel
theorem dX8_add_37 : decode cX8_add 37 = .ok (.return_, 1) := by decide +kernel
theorem dX8_byteAt_0 : decode cX8_byteAt 0 = .ok (.iload_n 1, 1) := by decide +kernel
theorem dX8_byteAt_1 : decode cX8_byteAt 1 = .ok (.ifCond .lt 33, 3) := by decide +kernel
theorem dX8_byteAt_4 : decode cX8_byteAt 4 = .ok (.iload_n 1, 1) := by decide +kernel
theorem dX8_byteAt_5 : decode cX8_byteAt 5 = .ok (.aload_n 0, 1) := by decide +kernel
theorem dX8_byteAt_6 : decode cX8_byteAt 6 = .ok (.getfield 15, 3) := by decide +kernel
theorem dX8_byteAt_9 : decode cX8_byteAt 9 = .ok (.if_icmp .ge 25, 3) := by decide +kernel
theorem dX8_byteAt_12 : decode cX8_byteAt 12 = .ok (.iload_n 1, 1) := by decide +kernel
theorem dX8_byteAt_13 : decode cX8_byteAt 13 = .ok (.aload_n 0, 1) := by decide +kernel
theorem dX8_byteAt_14 : decode cX8_byteAt 14 = .ok (.getfield 9, 3) := by decide +kernel
theorem dX8_byteAt_17 : decode cX8_byteAt 17 = .ok (.arraylength, 1) := by decide +kernel
theorem dX8_byteAt_18 : decode cX8_byteAt 18 = .ok (.if_icmp .ge 16, 3) := by decide +kernel
theorem dX8_byteAt_21 : decode cX8_byteAt 21 = .ok (.aload_n 0, 1) := by decide +kernel
theorem dX8_byteAt_22 : decode cX8_byteAt 22 = .ok (.getfield 9, 3) := by decide +kernel
theorem dX8_byteAt_25 : decode cX8_byteAt 25 = .ok (.iload_n 1, 1) := by decide +kernel
theorem dX8_byteAt_26 : decode cX8_byteAt 26 = .ok (.baload, 1) := by decide +kernel
theorem dX8_byteAt_27 : decode cX8_byteAt 27 = .ok (.sipush 255, 3) := by decide +kernel
theorem dX8_byteAt_30 : decode cX8_byteAt 30 = .ok (.iand, 1) := by decide +kernel
theorem dX8_byteAt_31 : decode cX8_byteAt 31 = .ok (.goto 4, 3) := by decide +kernel
theorem dX8_byteAt_34 : decode cX8_byteAt 34 = .ok (.iconst (-1), 1) := by decide +kernel
theorem dX8_byteAt_35 : decode cX8_byteAt 35 = .ok (.ireturn, 1) := by decide +kernel
theorem dX9_init_0 : decode cX9_init 0 = .ok (.aload_n 0, 1) := by decide +kernel
theorem dX9_init_1 : decode cX9_init 1 = .ok (.invokespecial 1, 3) := by decide +kernel
theorem dX9_init_4 : decode cX9_init 4 = .ok (.aload_n 0, 1) := by decide +kernel
theorem dX9_init_5 : decode cX9_init 5 = .ok (.bipush 50, 2) := by decide +kernel
theorem dX9_init_7 : decode cX9_init 7 = .ok (.anewarray 9, 3) := by decide +kernel
theorem dX9_init_10 : decode cX9_init 10 = .ok (.putfield 11, 3) := by decide +kernel
theorem dX9_init_13 : decode cX9_init 13 = .ok (.aload_n 0, 1) := by decide +kernel
theorem dX9_init_14 : decode cX9_init 14 = .ok (.bipush 60, 2) := by decide +kernel
theorem dX9_init_16 : decode cX9_init 16 = .ok (.anewarray 15, 3) := by decide +kernel
theorem dX9_init_19 : decode cX9_init 19 = .ok (.putfield 17, 3) := by decide +kernel
theorem dX9_init_22 : decode cX9_init 22 = .ok (.aload_n 0, 1) := by decide +kernel
theorem dX9_init_23 : decode cX9_init 23 = .ok (.bipush 13, 2) := by decide +kernel
theorem dX9_init_25 : decode cX9_init 25 = .ok (.anewarray 21, 3) := by decide +kernel
theorem dX9_init_28 : decode cX9_init 28 = .ok (.putfield 23, 3) := by decide +kernel
theorem dX9_init_31 : decode cX9_init 31 = .ok (.aload_n 0, 1) := by decide +kernel
theorem dX9_init_32 : decode cX9_init 32 = .ok (.new 27, 3) := by decide +kernel
theorem dX9_init_35 : decode cX9_init 35 = .ok (.dup, 1) := by decide +kernel
theorem dX9_init_36 : decode cX9_init 36 = .ok (.invokespecial 29, 3) := by decide +kernel
theorem dX9_init_39 : decode cX9_init 39 = .ok (.putfield 30, 3) := by decide +kernel
theorem dX9_init_42 : decode cX9_init 42 = .ok (.aload_n 0, 1) := by decide +kernel
theorem dX9_init_43 : decode cX9_init 43 = .ok (.new 27, 3) := by decide +kernel
theorem dX9_init_46 : decode cX9_init 46 = .ok (.dup, 1) := by decide +kernel
theorem dX9_init_47 : decode cX9_init 47 = .ok (.invokespecial 29, 3) := by decide +kernel
theorem dX9_init_50 : decode cX9_init 50 = .ok (.putfield 34, 3) := by decide +kernel
theorem dX9_init_53 : decode cX9_init 53 = .ok (.aload_n 0, 1) := by decide +kernel
theorem dX9_init_54 : decode cX9_init 54 = .ok (.new 37, 3) := by decide +kernel
theorem dX9_init_57 : decode cX9_init 57 = .ok (.dup, 1) := by decide +kernel
theorem dX9_init_58 : decode cX9_init 58 = .ok (.aload_n 0, 1) := by decide +kernel
theorem dX9_init_59 : decode cX9_init 59 = .ok (.getfield 34, 3) := by decide +kernel
theorem dX9_init_62 : decode cX9_init 62 = .ok (.invokespecial 39, 3) := by decide +kernel
theorem dX9_init_65 : decode cX9_init 65 = .ok (.putfield 42, 3) := by decide +kernel
theorem dX9_init_68 : decode cX9_init 68 = .ok (.iconst 1, 1) := by decide +kernel
theorem dX9_init_69 : decode cX9_init 69 = .ok (.istore_n 1, 1) := by decide +kernel
theorem dX9_init_70 : decode cX9_init 70 = .ok (.iload_n 1, 1) := by decide +kernel
theorem dX9_init_71 : decode cX9_init 71 = .ok (.bipush 12, 2) := by decide +kernel
theorem dX9_init_73 : decode cX9_init 73 = .ok (.if_icmp .gt 22, 3) := by decide +kernel
theorem dX9_init_76 : decode cX9_init 76 = .ok (.aload_n 0, 1) := by decide +kernel
theorem dX9_init_77 : decode cX9_init 77 = .ok (.getfield 23, 3) := by decide +kernel
theorem dX9_init_80 : decode cX9_init 80 = .ok (.iload_n 1, 1) := by decide +kernel
theorem dX9_init_81 : decode cX9_init 81 = .ok (.new 21, 3) := by decide +kernel
theorem dX9_init_84 : decode cX9_init 84 = .ok (.dup, 1) := by decide +kernel
theorem dX9_init_85 : decode cX9_init 85 = .ok (.invokespecial 46, 3) := by decide +kernel
theorem dX9_init_88 : decode cX9_init 88 = .ok (.aastore, 1) := by decide +kernel
theorem dX9_init_89 : decode cX9_init 89 = .ok (.iinc 1 1, 3) := by decide +kernel
theorem dX9_init_92 : decode cX9_init 92 = .ok (.goto (-22), 3) := by decide +kernel
theorem dX9_init_95 : decode cX9_init 95 = .ok (.return_, 1) := by decide +kernel
theorem dX9_days_0 : decode cX9_days 0 = .ok (.iload_n 1, 1) := by decide +kernel
theorem dX9_days_1 : decode cX9_days 1 = .ok (.iconst 0, 1) := by decide +kernel
theorem dX9_days_2 : decode cX9_days 2 = .ok (.sipush 1000, 3) := by decide +kernel
theorem dX9_days_5 : decode cX9_days 5 = .ok (.invokestatic 47, 3) := by decide +kernel
theorem dX9_days_8 : decode cX9_days 8 = .ok (.ifCond .eq 15, 3) := by decide +kernel
theorem dX9_days_11 : decode cX9_days 11 = .ok (.aload_n 0, 1) := by decide +kernel
theorem dX9_days_12 : decode cX9_days 12 = .ok (.getfield 51, 3) := by decide +kernel
theorem dX9_days_15 : decode cX9_days 15 = .ok (.iload_n 1, 1) := by decide +kernel
theorem dX9_days_16 : decode cX9_days 16 = .ok (.iadd, 1) := by decide +kernel
theorem dX9_days_17 : decode cX9_days 17 = .ok (.sipush 2000, 3) := by decide +kernel
theorem dX9_days_20 : decode cX9_days 20 = .ok (.if_icmp .le 5, 3) := by decide +kernel
theorem dX9_days_23 : decode cX9_days 23 = .ok (.iconst (-1), 1) := by decide +kernel
theorem dX9_days_24 : decode cX9_days 24 = .ok (.ireturn, 1) := by decide +kernel
theorem dX9_days_25 : decode cX9_days 25 = .ok (.aload_n 0, 1) := by decide +kernel
theorem dX9_days_26 : decode cX9_days 26 = .ok (.dup, 1) := by decide +kernel
theorem dX9_days_27 : decode cX9_days 27 = .ok (.getfield 51, 3) := by decide +kernel
theorem dX9_days_30 : decode cX9_days 30 = .ok (.iload_n 1, 1) := by decide +kernel
theorem dX9_days_31 : decode cX9_days 31 = .ok (.iadd, 1) := by decide +kernel
theorem dX9_days_32 : decode cX9_days 32 = .ok (.putfield 51, 3) := by decide +kernel
theorem dX9_days_35 : decode cX9_days 35 = .ok (.aload_n 0, 1) := by decide +kernel
theorem dX9_days_36 : decode cX9_days 36 = .ok (.getfield 51, 3) := by decide +kernel
theorem dX9_days_39 : decode cX9_days 39 = .ok (.ireturn, 1) := by decide +kernel
theorem dX9_ballot_0 : decode cX9_ballot 0 = .ok (.iload_n 1, 1) := by decide +kernel
theorem dX9_ballot_1 : decode cX9_ballot 1 = .ok (.iconst 1, 1) := by decide +kernel
theorem dX9_ballot_2 : decode cX9_ballot 2 = .ok (.bipush 20, 2) := by decide +kernel
theorem dX9_ballot_4 : decode cX9_ballot 4 = .ok (.invokestatic 47, 3) := by decide +kernel
theorem dX9_ballot_7 : decode cX9_ballot 7 = .ok (.ifCond .eq 23, 3) := by decide +kernel
theorem dX9_ballot_10 : decode cX9_ballot 10 = .ok (.iload_n 2, 1) := by decide +kernel
theorem dX9_ballot_11 : decode cX9_ballot 11 = .ok (.iconst 0, 1) := by decide +kernel
theorem dX9_ballot_12 : decode cX9_ballot 12 = .ok (.iload_n 1, 1) := by decide +kernel
theorem dX9_ballot_13 : decode cX9_ballot 13 = .ok (.invokestatic 47, 3) := by decide +kernel
theorem dX9_ballot_16 : decode cX9_ballot 16 = .ok (.ifCond .eq 14, 3) := by decide +kernel
theorem dX9_ballot_19 : decode cX9_ballot 19 = .ok (.iload_n 3, 1) := by decide +kernel
theorem dX9_ballot_20 : decode cX9_ballot 20 = .ok (.iconst 0, 1) := by decide +kernel
theorem dX9_ballot_21 : decode cX9_ballot 21 = .ok (.iload_n 1, 1) := by decide +kernel
theorem dX9_ballot_22 : decode cX9_ballot 22 = .ok (.iload_n 2, 1) := by decide +kernel
theorem dX9_ballot_23 : decode cX9_ballot 23 = .ok (.isub, 1) := by decide +kernel
theorem dX9_ballot_24 : decode cX9_ballot 24 = .ok (.invokestatic 47, 3) := by decide +kernel
theorem dX9_ballot_27 : decode cX9_ballot 27 = .ok (.ifCond .ne 5, 3) := by decide +kernel
theorem dX9_ballot_30 : decode cX9_ballot 30 = .ok (.iconst (-1), 1) := by decide +kernel
theorem dX9_ballot_31 : decode cX9_ballot 31 = .ok (.ireturn, 1) := by decide +kernel
theorem dX9_ballot_32 : decode cX9_ballot 32 = .ok (.aload_n 0, 1) := by decide +kernel
theorem dX9_ballot_33 : decode cX9_ballot 33 = .ok (.getfield 55, 3) := by decide +kernel
theorem dX9_ballot_36 : decode cX9_ballot 36 = .ok (.bipush 50, 2) := by decide +kernel
theorem dX9_ballot_38 : decode cX9_ballot 38 = .ok (.if_icmp .lt 5, 3) := by decide +kernel
theorem dX9_ballot_41 : decode cX9_ballot 41 = .ok (.iconst (-1), 1) := by decide +kernel
theorem dX9_ballot_42 : decode cX9_ballot 42 = .ok (.ireturn, 1) := by decide +kernel
theorem dX9_ballot_43 : decode cX9_ballot 43 = .ok (.aload_n 0, 1) := by decide +kernel
theorem dX9_ballot_44 : decode cX9_ballot 44 = .ok (.getfield 11, 3) := by decide +kernel
theorem dX9_ballot_47 : decode cX9_ballot 47 = .ok (.aload_n 0, 1) := by decide +kernel
theorem dX9_ballot_48 : decode cX9_ballot 48 = .ok (.getfield 55, 3) := by decide +kernel
theorem dX9_ballot_51 : decode cX9_ballot 51 = .ok (.new 9, 3) := by decide +kernel
theorem dX9_ballot_54 : decode cX9_ballot 54 = .ok (.dup, 1) := by decide +kernel
theorem dX9_ballot_55 : decode cX9_ballot 55 = .ok (.iload_n 1, 1) := by decide +kernel
theorem dX9_ballot_56 : decode cX9_ballot 56 = .ok (.iload_n 2, 1) := by decide +kernel
theorem dX9_ballot_57 : decode cX9_ballot 57 = .ok (.iload_n 3, 1) := by decide +kernel
theorem dX9_ballot_58 : decode cX9_ballot 58 = .ok (.lload 4, 2) := by decide +kernel
theorem dX9_ballot_60 : decode cX9_ballot 60 = .ok (.invokespecial 58, 3) := by decide +kernel
theorem dX9_ballot_63 : decode cX9_ballot 63 = .ok (.aastore, 1) := by decide +kernel
theorem dX9_ballot_64 : decode cX9_ballot 64 = .ok (.aload_n 0, 1) := by decide +kernel
theorem dX9_ballot_65 : decode cX9_ballot 65 = .ok (.dup, 1) := by decide +kernel
theorem dX9_ballot_66 : decode cX9_ballot 66 = .ok (.getfield 55, 3) := by decide +kernel
theorem dX9_ballot_69 : decode cX9_ballot 69 = .ok (.iconst 1, 1) := by decide +kernel
theorem dX9_ballot_70 : decode cX9_ballot 70 = .ok (.iadd, 1) := by decide +kernel
theorem dX9_ballot_71 : decode cX9_ballot 71 = .ok (.putfield 55, 3) := by decide +kernel
theorem dX9_ballot_74 : decode cX9_ballot 74 = .ok (.aload_n 0, 1) := by decide +kernel
theorem dX9_ballot_75 : decode cX9_ballot 75 = .ok (.getfield 55, 3) := by decide +kernel
theorem dX9_ballot_78 : decode cX9_ballot 78 = .ok (.iconst 1, 1) := by decide +kernel
theorem dX9_ballot_79 : decode cX9_ballot 79 = .ok (.isub, 1) := by decide +kernel
theorem dX9_ballot_80 : decode cX9_ballot 80 = .ok (.ireturn, 1) := by decide +kernel
theorem dX9_ball_0 : decode cX9_ball 0 = .ok (.aload_n 0, 1) := by decide +kernel
theorem dX9_ball_1 : decode cX9_ball 1 = .ok (.iload_n 1, 1) := by decide +kernel
theorem dX9_ball_2 : decode cX9_ball 2 = .ok (.invokevirtual 61, 3) := by decide +kernel
theorem dX9_ball_5 : decode cX9_ball 5 = .ok (.astore_n 3, 1) := by decide +kernel
theorem dX9_ball_6 : decode cX9_ball 6 = .ok (.aload_n 3, 1) := by decide +kernel
theorem dX9_ball_7 : decode cX9_ball 7 = .ok (.ifnonnull 7, 3) := by decide +kernel
theorem dX9_ball_10 : decode cX9_ball 10 = .ok (.iconst (-1), 1) := by decide +kernel
theorem dX9_ball_11 : decode cX9_ball 11 = .ok (.goto 8, 3) := by decide +kernel
theorem dX9_ball_14 : decode cX9_ball 14 = .ok (.aload_n 3, 1) := by decide +kernel
theorem dX9_ball_15 : decode cX9_ball 15 = .ok (.iload_n 2, 1) := by decide +kernel
theorem dX9_ball_16 : decode cX9_ball 16 = .ok (.invokevirtual 65, 3) := by decide +kernel
theorem dX9_ball_19 : decode cX9_ball 19 = .ok (.ireturn, 1) := by decide +kernel
theorem dX9_away_0 : decode cX9_away 0 = .ok (.aload_n 0, 1) := by decide +kernel
theorem dX9_away_1 : decode cX9_away 1 = .ok (.iload_n 1, 1) := by decide +kernel
theorem dX9_away_2 : decode cX9_away 2 = .ok (.invokevirtual 61, 3) := by decide +kernel
theorem dX9_away_5 : decode cX9_away 5 = .ok (.astore_n 3, 1) := by decide +kernel
theorem dX9_away_6 : decode cX9_away 6 = .ok (.aload_n 3, 1) := by decide +kernel
theorem dX9_away_7 : decode cX9_away 7 = .ok (.ifnull 11, 3) := by decide +kernel
theorem dX9_away_10 : decode cX9_away 10 = .ok (.aload_n 3, 1) := by decide +kernel
theorem dX9_away_11 : decode cX9_away 11 = .ok (.iload_n 2, 1) := by decide +kernel
theorem dX9_away_12 : decode cX9_away 12 = .ok (.invokevirtual 65, 3) := by decide +kernel
theorem dX9_away_15 : decode cX9_away 15 = .ok (.ifCond .eq 6, 3) := by decide +kernel
theorem dX9_away_18 : decode cX9_away 18 = .ok (.bipush (-2), 2) := by decide +kernel
theorem dX9_away_20 : decode cX9_away 20 = .ok (.ireturn, 1) := by decide +kernel
theorem dX9_away_21 : decode cX9_away 21 = .ok (.aload_n 3, 1) := by decide +kernel
theorem dX9_away_22 : decode cX9_away 22 = .ok (.iload_n 2, 1) := by decide +kernel
theorem dX9_away_23 : decode cX9_away 23 = .ok (.invokevirtual 69, 3) := by decide +kernel
theorem dX9_away_26 : decode cX9_away 26 = .ok (.ireturn, 1) := by decide +kernel
theorem dX9_leave_0 : decode cX9_leave 0 = .ok (.aload_n 0, 1) := by decide +kernel
theorem dX9_leave_1 : decode cX9_leave 1 = .ok (.iload_n 1, 1) := by decide +kernel
theorem dX9_leave_2 : decode cX9_leave 2 = .ok (.invokevirtual 61, 3) := by decide +kernel
theorem dX9_leave_5 : decode cX9_leave 5 = .ok (.astore 7, 2) := by decide +kernel
theorem dX9_leave_7 : decode cX9_leave 7 = .ok (.aload 7, 2) := by decide +kernel
theorem dX9_leave_9 : decode cX9_leave 9 = .ok (.ifnull 12, 3) := by decide +kernel
theorem dX9_leave_12 : decode cX9_leave 12 = .ok (.aload 7, 2) := by decide +kernel
theorem dX9_leave_14 : decode cX9_leave 14 = .ok (.iload_n 2, 1) := by decide +kernel
theorem dX9_leave_15 : decode cX9_leave 15 = .ok (.invokevirtual 65, 3) := by decide +kernel
theorem dX9_leave_18 : decode cX9_leave 18 = .ok (.ifCond .eq 5, 3) := by decide +kernel
theorem dX9_leave_21 : decode cX9_leave 21 = .ok (.iconst (-1), 1) := by decide +kernel
theorem dX9_leave_22 : decode cX9_leave 22 = .ok (.ireturn, 1) := by decide +kernel
theorem dX9_leave_23 : decode cX9_leave 23 = .ok (.iload_n 3, 1) := by decide +kernel
theorem dX9_leave_24 : decode cX9_leave 24 = .ok (.iconst 0, 1) := by decide +kernel
theorem dX9_leave_25 : decode cX9_leave 25 = .ok (.iconst 1, 1) := by decide +kernel
theorem dX9_leave_26 : decode cX9_leave 26 = .ok (.invokestatic 47, 3) := by decide +kernel
theorem dX9_leave_29 : decode cX9_leave 29 = .ok (.ifCond .eq 24, 3) := by decide +kernel
theorem dX9_leave_32 : decode cX9_leave 32 = .ok (.iload 4, 2) := by decide +kernel
theorem dX9_leave_34 : decode cX9_leave 34 = .ok (.iconst 0, 1) := by decide +kernel
theorem dX9_leave_35 : decode cX9_leave 35 = .ok (.bipush 9, 2) := by decide +kernel
theorem dX9_leave_37 : decode cX9_leave 37 = .ok (.invokestatic 47, 3) := by decide +kernel
theorem dX9_leave_40 : decode cX9_leave 40 = .ok (.ifCond .eq 13, 3) := by decide +kernel
theorem dX9_leave_43 : decode cX9_leave 43 = .ok (.iload 5, 2) := by decide +kernel
theorem dX9_leave_45 : decode cX9_leave 45 = .ok (.iload 6, 2) := by decide +kernel
theorem dX9_leave_47 : decode cX9_leave 47 = .ok (.invokestatic 72, 3) := by decide +kernel
theorem dX9_leave_50 : decode cX9_leave 50 = .ok (.ifCond .ne 5, 3) := by decide +kernel
theorem dX9_leave_53 : decode cX9_leave 53 = .ok (.iconst (-1), 1) := by decide +kernel
theorem dX9_leave_54 : decode cX9_leave 54 = .ok (.ireturn, 1) := by decide +kernel
theorem dX9_leave_55 : decode cX9_leave 55 = .ok (.aload_n 0, 1) := by decide +kernel
theorem dX9_leave_56 : decode cX9_leave 56 = .ok (.getfield 78, 3) := by decide +kernel
theorem dX9_leave_59 : decode cX9_leave 59 = .ok (.bipush 60, 2) := by decide +kernel
theorem dX9_leave_61 : decode cX9_leave 61 = .ok (.if_icmp .lt 5, 3) := by decide +kernel
theorem dX9_leave_64 : decode cX9_leave 64 = .ok (.iconst (-1), 1) := by decide +kernel
theorem dX9_leave_65 : decode cX9_leave 65 = .ok (.ireturn, 1) := by decide +kernel
theorem dX9_leave_66 : decode cX9_leave 66 = .ok (.aload 7, 2) := by decide +kernel
theorem dX9_leave_68 : decode cX9_leave 68 = .ok (.iload_n 2, 1) := by decide +kernel
theorem dX9_leave_69 : decode cX9_leave 69 = .ok (.iconst 4, 1) := by decide +kernel
theorem dX9_leave_70 : decode cX9_leave 70 = .ok (.invokevirtual 81, 3) := by decide +kernel
theorem dX9_leave_73 : decode cX9_leave 73 = .ok (.aload_n 0, 1) := by decide +kernel
theorem dX9_leave_74 : decode cX9_leave 74 = .ok (.getfield 17, 3) := by decide +kernel
theorem dX9_leave_77 : decode cX9_leave 77 = .ok (.aload_n 0, 1) := by decide +kernel
theorem dX9_leave_78 : decode cX9_leave 78 = .ok (.getfield 78, 3) := by decide +kernel
theorem dX9_leave_81 : decode cX9_leave 81 = .ok (.new 15, 3) := by decide +kernel
theorem dX9_leave_84 : decode cX9_leave 84 = .ok (.dup, 1) := by decide +kernel
theorem dX9_leave_85 : decode cX9_leave 85 = .ok (.aload_n 0, 1) := by decide +kernel
theorem dX9_leave_86 : decode cX9_leave 86 = .ok (.getfield 51, 3) := by decide +kernel
theorem dX9_leave_89 : decode cX9_leave 89 = .ok (.iload_n 3, 1) := by decide +kernel
theorem dX9_leave_90 : decode cX9_leave 90 = .ok (.iload 4, 2) := by decide +kernel
theorem dX9_leave_92 : decode cX9_leave 92 = .ok (.new 73, 3) := by decide +kernel
theorem dX9_leave_95 : decode cX9_leave 95 = .ok (.dup, 1) := by decide +kernel
theorem dX9_leave_96 : decode cX9_leave 96 = .ok (.iload 5, 2) := by decide +kernel
theorem dX9_leave_98 : decode cX9_leave 98 = .ok (.iload 6, 2) := by decide +kernel
theorem dX9_leave_100 : decode cX9_leave 100 = .ok (.invokespecial 85, 3) := by decide +kernel
theorem dX9_leave_103 : decode cX9_leave 103 = .ok (.iload_n 1, 1) := by decide +kernel
theorem dX9_leave_104 : decode cX9_leave 104 = .ok (.iload_n 2, 1) := by decide +kernel
theorem dX9_leave_105 : decode cX9_leave 105 = .ok (.invokespecial 87, 3) := by decide +kernel
theorem dX9_leave_108 : decode cX9_leave 108 = .ok (.aastore, 1) := by decide +kernel
theorem dX9_leave_109 : decode cX9_leave 109 = .ok (.aload_n 0, 1) := by decide +kernel
theorem dX9_leave_110 : decode cX9_leave 110 = .ok (.dup, 1) := by decide +kernel
theorem dX9_leave_111 : decode cX9_leave 111 = .ok (.getfield 78, 3) := by decide +kernel
theorem dX9_leave_114 : decode cX9_leave 114 = .ok (.iconst 1, 1) := by decide +kernel
theorem dX9_leave_115 : decode cX9_leave 115 = .ok (.iadd, 1) := by decide +kernel
theorem dX9_leave_116 : decode cX9_leave 116 = .ok (.putfield 78, 3) := by decide +kernel
theorem dX9_leave_119 : decode cX9_leave 119 = .ok (.aload_n 0, 1) := by decide +kernel
theorem dX9_leave_120 : decode cX9_leave 120 = .ok (.getfield 78, 3) := by decide +kernel
theorem dX9_leave_123 : decode cX9_leave 123 = .ok (.iconst 1, 1) := by decide +kernel
theorem dX9_leave_124 : decode cX9_leave 124 = .ok (.isub, 1) := by decide +kernel
theorem dX9_leave_125 : decode cX9_leave 125 = .ok (.ireturn, 1) := by decide +kernel
theorem dX9_beds_0 : decode cX9_beds 0 = .ok (.aload_n 0, 1) := by decide +kernel
theorem dX9_beds_1 : decode cX9_beds 1 = .ok (.iload_n 1, 1) := by decide +kernel
theorem dX9_beds_2 : decode cX9_beds 2 = .ok (.invokevirtual 90, 3) := by decide +kernel
theorem dX9_beds_5 : decode cX9_beds 5 = .ok (.astore_n 3, 1) := by decide +kernel
theorem dX9_beds_6 : decode cX9_beds 6 = .ok (.aload_n 3, 1) := by decide +kernel
theorem dX9_beds_7 : decode cX9_beds 7 = .ok (.ifnull 22, 3) := by decide +kernel
theorem dX9_beds_10 : decode cX9_beds 10 = .ok (.iload_n 2, 1) := by decide +kernel
theorem dX9_beds_11 : decode cX9_beds 11 = .ok (.iconst 1, 1) := by decide +kernel
theorem dX9_beds_12 : decode cX9_beds 12 = .ok (.iconst 3, 1) := by decide +kernel
theorem dX9_beds_13 : decode cX9_beds 13 = .ok (.invokestatic 47, 3) := by decide +kernel
theorem dX9_beds_16 : decode cX9_beds 16 = .ok (.ifCond .eq 13, 3) := by decide +kernel
theorem dX9_beds_19 : decode cX9_beds 19 = .ok (.aload_n 0, 1) := by decide +kernel
theorem dX9_beds_20 : decode cX9_beds 20 = .ok (.iload_n 1, 1) := by decide +kernel
theorem dX9_beds_21 : decode cX9_beds 21 = .ok (.iload_n 2, 1) := by decide +kernel
theorem dX9_beds_22 : decode cX9_beds 22 = .ok (.iconst 0, 1) := by decide +kernel
theorem dX9_beds_23 : decode cX9_beds 23 = .ok (.invokevirtual 94, 3) := by decide +kernel
theorem dX9_beds_26 : decode cX9_beds 26 = .ok (.ifCond .eq 5, 3) := by decide +kernel
theorem dX9_beds_29 : decode cX9_beds 29 = .ok (.iconst 0, 1) := by decide +kernel
theorem dX9_beds_30 : decode cX9_beds 30 = .ok (.ireturn, 1) := by decide +kernel
theorem dX9_beds_31 : decode cX9_beds 31 = .ok (.aload_n 3, 1) := by decide +kernel
theorem dX9_beds_32 : decode cX9_beds 32 = .ok (.iload_n 2, 1) := by decide +kernel
theorem dX9_beds_33 : decode cX9_beds 33 = .ok (.putfield 97, 3) := by decide +kernel
theorem dX9_beds_36 : decode cX9_beds 36 = .ok (.iconst 1, 1) := by decide +kernel
theorem dX9_beds_37 : decode cX9_beds 37 = .ok (.ireturn, 1) := by decide +kernel
theorem dX9_move_0 : decode cX9_move 0 = .ok (.aload_n 0, 1) := by decide +kernel
theorem dX9_move_1 : decode cX9_move 1 = .ok (.iload_n 1, 1) := by decide +kernel
theorem dX9_move_2 : decode cX9_move 2 = .ok (.invokevirtual 100, 3) := by decide +kernel
theorem dX9_move_5 : decode cX9_move 5 = .ok (.astore 4, 2) := by decide +kernel
theorem dX9_move_7 : decode cX9_move 7 = .ok (.aload 4, 2) := by decide +kernel
theorem dX9_move_9 : decode cX9_move 9 = .ok (.ifnull 26, 3) := by decide +kernel
theorem dX9_move_12 : decode cX9_move 12 = .ok (.iload_n 2, 1) := by decide +kernel
theorem dX9_move_13 : decode cX9_move 13 = .ok (.invokestatic 104, 3) := by decide +kernel
theorem dX9_move_16 : decode cX9_move 16 = .ok (.ifCond .eq 19, 3) := by decide +kernel
theorem dX9_move_19 : decode cX9_move 19 = .ok (.iload_n 3, 1) := by decide +kernel
theorem dX9_move_20 : decode cX9_move 20 = .ok (.aload 4, 2) := by decide +kernel
theorem dX9_move_22 : decode cX9_move 22 = .ok (.getfield 108, 3) := by decide +kernel
theorem dX9_move_25 : decode cX9_move 25 = .ok (.aload_n 0, 1) := by decide +kernel
theorem dX9_move_26 : decode cX9_move 26 = .ok (.getfield 51, 3) := by decide +kernel
theorem dX9_move_29 : decode cX9_move 29 = .ok (.invokestatic 47, 3) := by decide +kernel
theorem dX9_move_32 : decode cX9_move 32 = .ok (.ifCond .ne 5, 3) := by decide +kernel
theorem dX9_move_35 : decode cX9_move 35 = .ok (.iconst 0, 1) := by decide +kernel
theorem dX9_move_36 : decode cX9_move 36 = .ok (.ireturn, 1) := by decide +kernel
theorem dX9_move_37 : decode cX9_move 37 = .ok (.aload_n 0, 1) := by decide +kernel
theorem dX9_move_38 : decode cX9_move 38 = .ok (.getfield 111, 3) := by decide +kernel
theorem dX9_move_41 : decode cX9_move 41 = .ok (.sipush 300, 3) := by decide +kernel
theorem dX9_move_44 : decode cX9_move 44 = .ok (.if_icmp .ge 13, 3) := by decide +kernel
theorem dX9_move_47 : decode cX9_move 47 = .ok (.aload_n 0, 1) := by decide +kernel
theorem dX9_move_48 : decode cX9_move 48 = .ok (.aload 4, 2) := by decide +kernel
theorem dX9_move_50 : decode cX9_move 50 = .ok (.iload_n 3, 1) := by decide +kernel
theorem dX9_move_51 : decode cX9_move 51 = .ok (.invokevirtual 114, 3) := by decide +kernel
theorem dX9_move_54 : decode cX9_move 54 = .ok (.ifCond .eq 5, 3) := by decide +kernel
theorem dX9_move_57 : decode cX9_move 57 = .ok (.iconst 0, 1) := by decide +kernel
theorem dX9_move_58 : decode cX9_move 58 = .ok (.ireturn, 1) := by decide +kernel
theorem dX9_move_59 : decode cX9_move 59 = .ok (.aload 4, 2) := by decide +kernel
theorem dX9_move_61 : decode cX9_move 61 = .ok (.iload_n 3, 1) := by decide +kernel
theorem dX9_move_62 : decode cX9_move 62 = .ok (.invokevirtual 118, 3) := by decide +kernel
theorem dX9_move_65 : decode cX9_move 65 = .ok (.astore 5, 2) := by decide +kernel
theorem dX9_move_67 : decode cX9_move 67 = .ok (.new 122, 3) := by decide +kernel
theorem dX9_move_70 : decode cX9_move 70 = .ok (.dup, 1) := by decide +kernel
theorem dX9_move_71 : decode cX9_move 71 = .ok (.iload_n 2, 1) := by decide +kernel
theorem dX9_move_72 : decode cX9_move 72 = .ok (.iload_n 3, 1) := by decide +kernel
theorem dX9_move_73 : decode cX9_move 73 = .ok (.aload_n 0, 1) := by decide +kernel
theorem dX9_move_74 : decode cX9_move 74 = .ok (.getfield 51, 3) := by decide +kernel
theorem dX9_move_77 : decode cX9_move 77 = .ok (.invokespecial 124, 3) := by decide +kernel
theorem dX9_move_80 : decode cX9_move 80 = .ok (.astore 6, 2) := by decide +kernel
theorem dX9_move_82 : decode cX9_move 82 = .ok (.aload 6, 2) := by decide +kernel
theorem dX9_move_84 : decode cX9_move 84 = .ok (.aload 5, 2) := by decide +kernel
theorem dX9_move_86 : decode cX9_move 86 = .ok (.getfield 127, 3) := by decide +kernel
theorem dX9_move_89 : decode cX9_move 89 = .ok (.putfield 127, 3) := by decide +kernel
theorem dX9_move_92 : decode cX9_move 92 = .ok (.aload 5, 2) := by decide +kernel
theorem dX9_move_94 : decode cX9_move 94 = .ok (.aload 6, 2) := by decide +kernel
theorem dX9_move_96 : decode cX9_move 96 = .ok (.putfield 127, 3) := by decide +kernel
theorem dX9_move_99 : decode cX9_move 99 = .ok (.aload_n 0, 1) := by decide +kernel
theorem dX9_move_100 : decode cX9_move 100 = .ok (.iload_n 2, 1) := by decide +kernel
theorem dX9_move_101 : decode cX9_move 101 = .ok (.invokevirtual 90, 3) := by decide +kernel
theorem dX9_move_104 : decode cX9_move 104 = .ok (.astore 7, 2) := by decide +kernel
theorem dX9_move_106 : decode cX9_move 106 = .ok (.aload 7, 2) := by decide +kernel
theorem dX9_move_108 : decode cX9_move 108 = .ok (.ifnull 29, 3) := by decide +kernel
theorem dX9_move_111 : decode cX9_move 111 = .ok (.aload_n 0, 1) := by decide +kernel
theorem dX9_move_112 : decode cX9_move 112 = .ok (.iload_n 2, 1) := by decide +kernel
theorem dX9_move_113 : decode cX9_move 113 = .ok (.aload 7, 2) := by decide +kernel
theorem dX9_move_115 : decode cX9_move 115 = .ok (.getfield 97, 3) := by decide +kernel
theorem dX9_move_118 : decode cX9_move 118 = .ok (.iload_n 3, 1) := by decide +kernel
theorem dX9_move_119 : decode cX9_move 119 = .ok (.invokevirtual 94, 3) := by decide +kernel
theorem dX9_move_122 : decode cX9_move 122 = .ok (.ifCond .eq 15, 3) := by decide +kernel
theorem dX9_move_125 : decode cX9_move 125 = .ok (.aload 5, 2) := by decide +kernel
theorem dX9_move_127 : decode cX9_move 127 = .ok (.aload 6, 2) := by decide +kernel
theorem dX9_move_129 : decode cX9_move 129 = .ok (.getfield 127, 3) := by decide +kernel
theorem dX9_move_132 : decode cX9_move 132 = .ok (.putfield 127, 3) := by decide +kernel
theorem dX9_move_135 : decode cX9_move 135 = .ok (.iconst 0, 1) := by decide +kernel
theorem dX9_move_136 : decode cX9_move 136 = .ok (.ireturn, 1) := by decide +kernel
theorem dX9_move_137 : decode cX9_move 137 = .ok (.aload 4, 2) := by decide +kernel
theorem dX9_move_139 : decode cX9_move 139 = .ok (.dup, 1) := by decide +kernel
theorem dX9_move_140 : decode cX9_move 140 = .ok (.getfield 131, 3) := by decide +kernel
theorem dX9_move_143 : decode cX9_move 143 = .ok (.iconst 1, 1) := by decide +kernel
theorem dX9_move_144 : decode cX9_move 144 = .ok (.iadd, 1) := by decide +kernel
theorem dX9_move_145 : decode cX9_move 145 = .ok (.putfield 131, 3) := by decide +kernel
theorem dX9_move_148 : decode cX9_move 148 = .ok (.aload_n 0, 1) := by decide +kernel
theorem dX9_move_149 : decode cX9_move 149 = .ok (.dup, 1) := by decide +kernel
theorem dX9_move_150 : decode cX9_move 150 = .ok (.getfield 111, 3) := by decide +kernel
theorem dX9_move_153 : decode cX9_move 153 = .ok (.iconst 1, 1) := by decide +kernel
theorem dX9_move_154 : decode cX9_move 154 = .ok (.iadd, 1) := by decide +kernel
theorem dX9_move_155 : decode cX9_move 155 = .ok (.putfield 111, 3) := by decide +kernel
theorem dX9_move_158 : decode cX9_move 158 = .ok (.iconst 1, 1) := by decide +kernel
theorem dX9_move_159 : decode cX9_move 159 = .ok (.ireturn, 1) := by decide +kernel
theorem dX9_place_0 : decode cX9_place 0 = .ok (.aload_n 0, 1) := by decide +kernel
theorem dX9_place_1 : decode cX9_place 1 = .ok (.iload_n 1, 1) := by decide +kernel
theorem dX9_place_2 : decode cX9_place 2 = .ok (.invokevirtual 100, 3) := by decide +kernel
theorem dX9_place_5 : decode cX9_place 5 = .ok (.astore 4, 2) := by decide +kernel
theorem dX9_place_7 : decode cX9_place 7 = .ok (.aload 4, 2) := by decide +kernel
theorem dX9_place_9 : decode cX9_place 9 = .ok (.ifnull 19, 3) := by decide +kernel
theorem dX9_place_12 : decode cX9_place 12 = .ok (.aload_n 0, 1) := by decide +kernel
theorem dX9_place_13 : decode cX9_place 13 = .ok (.iload_n 2, 1) := by decide +kernel
theorem dX9_place_14 : decode cX9_place 14 = .ok (.invokevirtual 132, 3) := by decide +kernel
theorem dX9_place_17 : decode cX9_place 17 = .ok (.ifCond .eq 11, 3) := by decide +kernel
theorem dX9_place_20 : decode cX9_place 20 = .ok (.aload_n 0, 1) := by decide +kernel
theorem dX9_place_21 : decode cX9_place 21 = .ok (.iload_n 3, 1) := by decide +kernel
theorem dX9_place_22 : decode cX9_place 22 = .ok (.invokevirtual 132, 3) := by decide +kernel
theorem dX9_place_25 : decode cX9_place 25 = .ok (.ifCond .ne 5, 3) := by decide +kernel
theorem dX9_place_28 : decode cX9_place 28 = .ok (.iconst (-1), 1) := by decide +kernel
theorem dX9_place_29 : decode cX9_place 29 = .ok (.ireturn, 1) := by decide +kernel
theorem dX9_place_30 : decode cX9_place 30 = .ok (.aload 4, 2) := by decide +kernel
theorem dX9_place_32 : decode cX9_place 32 = .ok (.iload_n 2, 1) := by decide +kernel
theorem dX9_place_33 : decode cX9_place 33 = .ok (.iload_n 3, 1) := by decide +kernel
theorem dX9_place_34 : decode cX9_place 34 = .ok (.invokevirtual 135, 3) := by decide +kernel
theorem dX9_place_37 : decode cX9_place 37 = .ok (.ireturn, 1) := by decide +kernel
theorem dX9_look_0 : decode cX9_look 0 = .ok (.aload_n 0, 1) := by decide +kernel
theorem dX9_look_1 : decode cX9_look 1 = .ok (.iload_n 1, 1) := by decide +kernel
theorem dX9_look_2 : decode cX9_look 2 = .ok (.invokevirtual 90, 3) := by decide +kernel
theorem dX9_look_5 : decode cX9_look 5 = .ok (.astore_n 2, 1) := by decide +kernel
theorem dX9_look_6 : decode cX9_look 6 = .ok (.aload_n 2, 1) := by decide +kernel
theorem dX9_look_7 : decode cX9_look 7 = .ok (.ifnull 24, 3) := by decide +kernel
theorem dX9_look_10 : decode cX9_look 10 = .ok (.aload_n 2, 1) := by decide +kernel
theorem dX9_look_11 : decode cX9_look 11 = .ok (.getfield 139, 3) := by decide +kernel
theorem dX9_look_14 : decode cX9_look 14 = .ok (.ifnull 19, 3) := by decide +kernel
theorem dX9_look_17 : decode cX9_look 17 = .ok (.aload_n 2, 1) := by decide +kernel
theorem dX9_look_18 : decode cX9_look 18 = .ok (.getfield 139, 3) := by decide +kernel
theorem dX9_look_21 : decode cX9_look 21 = .ok (.getfield 143, 3) := by decide +kernel
theorem dX9_look_24 : decode cX9_look 24 = .ok (.aload_n 0, 1) := by decide +kernel
theorem dX9_look_25 : decode cX9_look 25 = .ok (.getfield 51, 3) := by decide +kernel
theorem dX9_look_28 : decode cX9_look 28 = .ok (.if_icmp .ne 5, 3) := by decide +kernel
theorem dX9_look_31 : decode cX9_look 31 = .ok (.iconst 0, 1) := by decide +kernel
theorem dX9_look_32 : decode cX9_look 32 = .ok (.ireturn, 1) := by decide +kernel
theorem dX9_look_33 : decode cX9_look 33 = .ok (.aload_n 2, 1) := by decide +kernel
theorem dX9_look_34 : decode cX9_look 34 = .ok (.new 144, 3) := by decide +kernel
theorem dX9_look_37 : decode cX9_look 37 = .ok (.dup, 1) := by decide +kernel
theorem dX9_look_38 : decode cX9_look 38 = .ok (.aload_n 0, 1) := by decide +kernel
theorem dX9_look_39 : decode cX9_look 39 = .ok (.getfield 51, 3) := by decide +kernel
theorem dX9_look_42 : decode cX9_look 42 = .ok (.aload_n 2, 1) := by decide +kernel
theorem dX9_look_43 : decode cX9_look 43 = .ok (.getfield 139, 3) := by decide +kernel
theorem dX9_look_46 : decode cX9_look 46 = .ok (.invokespecial 146, 3) := by decide +kernel
theorem dX9_look_49 : decode cX9_look 49 = .ok (.putfield 139, 3) := by decide +kernel
theorem dX9_look_52 : decode cX9_look 52 = .ok (.aload_n 0, 1) := by decide +kernel
theorem dX9_look_53 : decode cX9_look 53 = .ok (.dup, 1) := by decide +kernel
theorem dX9_look_54 : decode cX9_look 54 = .ok (.getfield 149, 3) := by decide +kernel
theorem dX9_look_57 : decode cX9_look 57 = .ok (.iconst 1, 1) := by decide +kernel
theorem dX9_look_58 : decode cX9_look 58 = .ok (.iadd, 1) := by decide +kernel
theorem dX9_look_59 : decode cX9_look 59 = .ok (.putfield 149, 3) := by decide +kernel
theorem dX9_look_62 : decode cX9_look 62 = .ok (.iconst 1, 1) := by decide +kernel
theorem dX9_look_63 : decode cX9_look 63 = .ok (.ireturn, 1) := by decide +kernel
theorem dX9_many_0 : decode cX9_many 0 = .ok (.iload_n 1, 1) := by decide +kernel
theorem dX9_many_1 : decode cX9_many 1 = .ok (.invokestatic 104, 3) := by decide +kernel
theorem dX9_many_4 : decode cX9_many 4 = .ok (.ifCond .eq 19, 3) := by decide +kernel
theorem dX9_many_7 : decode cX9_many 7 = .ok (.aload_n 0, 1) := by decide +kernel
theorem dX9_many_8 : decode cX9_many 8 = .ok (.iload_n 2, 1) := by decide +kernel
theorem dX9_many_9 : decode cX9_many 9 = .ok (.invokevirtual 132, 3) := by decide +kernel
theorem dX9_many_12 : decode cX9_many 12 = .ok (.ifCond .eq 11, 3) := by decide +kernel
theorem dX9_many_15 : decode cX9_many 15 = .ok (.aload_n 0, 1) := by decide +kernel
theorem dX9_many_16 : decode cX9_many 16 = .ok (.iload_n 3, 1) := by decide +kernel
theorem dX9_many_17 : decode cX9_many 17 = .ok (.invokevirtual 132, 3) := by decide +kernel
theorem dX9_many_20 : decode cX9_many 20 = .ok (.ifCond .ne 5, 3) := by decide +kernel
theorem dX9_many_23 : decode cX9_many 23 = .ok (.iconst (-1), 1) := by decide +kernel
theorem dX9_many_24 : decode cX9_many 24 = .ok (.ireturn, 1) := by decide +kernel
theorem dX9_many_25 : decode cX9_many 25 = .ok (.aload_n 0, 1) := by decide +kernel
theorem dX9_many_26 : decode cX9_many 26 = .ok (.iload_n 1, 1) := by decide +kernel
theorem dX9_many_27 : decode cX9_many 27 = .ok (.iload_n 2, 1) := by decide +kernel
theorem dX9_many_28 : decode cX9_many 28 = .ok (.iload_n 3, 1) := by decide +kernel
theorem dX9_many_29 : decode cX9_many 29 = .ok (.invokevirtual 152, 3) := by decide +kernel
theorem dX9_many_32 : decode cX9_many 32 = .ok (.ireturn, 1) := by decide +kernel
theorem dX9_pay_0 : decode cX9_pay 0 = .ok (.aload_n 0, 1) := by decide +kernel
theorem dX9_pay_1 : decode cX9_pay 1 = .ok (.iload_n 1, 1) := by decide +kernel
theorem dX9_pay_2 : decode cX9_pay 2 = .ok (.invokevirtual 90, 3) := by decide +kernel
theorem dX9_pay_5 : decode cX9_pay 5 = .ok (.astore 5, 2) := by decide +kernel
theorem dX9_pay_7 : decode cX9_pay 7 = .ok (.aload 5, 2) := by decide +kernel
theorem dX9_pay_9 : decode cX9_pay 9 = .ok (.ifnull 20, 3) := by decide +kernel
theorem dX9_pay_12 : decode cX9_pay 12 = .ok (.iload_n 2, 1) := by decide +kernel
theorem dX9_pay_13 : decode cX9_pay 13 = .ok (.iload_n 3, 1) := by decide +kernel
theorem dX9_pay_14 : decode cX9_pay 14 = .ok (.invokestatic 156, 3) := by decide +kernel
theorem dX9_pay_17 : decode cX9_pay 17 = .ok (.ifCond .eq 12, 3) := by decide +kernel
theorem dX9_pay_20 : decode cX9_pay 20 = .ok (.aload_n 0, 1) := by decide +kernel
theorem dX9_pay_21 : decode cX9_pay 21 = .ok (.iload 4, 2) := by decide +kernel
theorem dX9_pay_23 : decode cX9_pay 23 = .ok (.invokevirtual 132, 3) := by decide +kernel
theorem dX9_pay_26 : decode cX9_pay 26 = .ok (.ifCond .ne 5, 3) := by decide +kernel
theorem dX9_pay_29 : decode cX9_pay 29 = .ok (.iconst (-1), 1) := by decide +kernel
theorem dX9_pay_30 : decode cX9_pay 30 = .ok (.ireturn, 1) := by decide +kernel
theorem dX9_pay_31 : decode cX9_pay 31 = .ok (.iconst 2, 1) := by decide +kernel
theorem dX9_pay_32 : decode cX9_pay 32 = .ok (.aload_n 0, 1) := by decide +kernel
theorem dX9_pay_33 : decode cX9_pay 33 = .ok (.iload_n 1, 1) := by decide +kernel
theorem dX9_pay_34 : decode cX9_pay 34 = .ok (.aload 5, 2) := by decide +kernel
theorem dX9_pay_36 : decode cX9_pay 36 = .ok (.getfield 139, 3) := by decide +kernel
theorem dX9_pay_39 : decode cX9_pay 39 = .ok (.iload_n 2, 1) := by decide +kernel
theorem dX9_pay_40 : decode cX9_pay 40 = .ok (.iload_n 3, 1) := by decide +kernel
theorem dX9_pay_41 : decode cX9_pay 41 = .ok (.iload 4, 2) := by decide +kernel
theorem dX9_pay_43 : decode cX9_pay 43 = .ok (.invokevirtual 159, 3) := by decide +kernel
theorem dX9_pay_46 : decode cX9_pay 46 = .ok (.imul, 1) := by decide +kernel
theorem dX9_pay_47 : decode cX9_pay 47 = .ok (.ireturn, 1) := by decide +kernel
theorem dX9_gap_0 : decode cX9_gap 0 = .ok (.aload_n 0, 1) := by decide +kernel
theorem dX9_gap_1 : decode cX9_gap 1 = .ok (.iload_n 1, 1) := by decide +kernel
theorem dX9_gap_2 : decode cX9_gap 2 = .ok (.invokevirtual 90, 3) := by decide +kernel
theorem dX9_gap_5 : decode cX9_gap 5 = .ok (.astore 5, 2) := by decide +kernel
theorem dX9_gap_7 : decode cX9_gap 7 = .ok (.aload 5, 2) := by decide +kernel
theorem dX9_gap_9 : decode cX9_gap 9 = .ok (.ifnull 20, 3) := by decide +kernel
theorem dX9_gap_12 : decode cX9_gap 12 = .ok (.iload_n 2, 1) := by decide +kernel
theorem dX9_gap_13 : decode cX9_gap 13 = .ok (.iload_n 3, 1) := by decide +kernel
theorem dX9_gap_14 : decode cX9_gap 14 = .ok (.invokestatic 156, 3) := by decide +kernel
theorem dX9_gap_17 : decode cX9_gap 17 = .ok (.ifCond .eq 12, 3) := by decide +kernel
theorem dX9_gap_20 : decode cX9_gap 20 = .ok (.aload_n 0, 1) := by decide +kernel
theorem dX9_gap_21 : decode cX9_gap 21 = .ok (.iload 4, 2) := by decide +kernel
theorem dX9_gap_23 : decode cX9_gap 23 = .ok (.invokevirtual 132, 3) := by decide +kernel
theorem dX9_gap_26 : decode cX9_gap 26 = .ok (.ifCond .ne 5, 3) := by decide +kernel
theorem dX9_gap_29 : decode cX9_gap 29 = .ok (.iconst (-1), 1) := by decide +kernel
theorem dX9_gap_30 : decode cX9_gap 30 = .ok (.ireturn, 1) := by decide +kernel
theorem dX9_gap_31 : decode cX9_gap 31 = .ok (.aload_n 0, 1) := by decide +kernel
theorem dX9_gap_32 : decode cX9_gap 32 = .ok (.iload_n 1, 1) := by decide +kernel
theorem dX9_gap_33 : decode cX9_gap 33 = .ok (.iload_n 2, 1) := by decide +kernel
theorem dX9_gap_34 : decode cX9_gap 34 = .ok (.iload_n 3, 1) := by decide +kernel
theorem dX9_gap_35 : decode cX9_gap 35 = .ok (.iload 4, 2) := by decide +kernel
theorem dX9_gap_37 : decode cX9_gap 37 = .ok (.invokevirtual 163, 3) := by decide +kernel
theorem dX9_gap_40 : decode cX9_gap 40 = .ok (.istore 6, 2) := by decide +kernel
theorem dX9_gap_42 : decode cX9_gap 42 = .ok (.iload 6, 2) := by decide +kernel
theorem dX9_gap_44 : decode cX9_gap 44 = .ok (.aload_n 0, 1) := by decide +kernel
theorem dX9_gap_45 : decode cX9_gap 45 = .ok (.iload_n 1, 1) := by decide +kernel
theorem dX9_gap_46 : decode cX9_gap 46 = .ok (.aload 5, 2) := by decide +kernel
theorem dX9_gap_48 : decode cX9_gap 48 = .ok (.getfield 139, 3) := by decide +kernel
theorem dX9_gap_51 : decode cX9_gap 51 = .ok (.iload_n 2, 1) := by decide +kernel
theorem dX9_gap_52 : decode cX9_gap 52 = .ok (.iload_n 3, 1) := by decide +kernel
theorem dX9_gap_53 : decode cX9_gap 53 = .ok (.iload 4, 2) := by decide +kernel
theorem dX9_gap_55 : decode cX9_gap 55 = .ok (.invokevirtual 159, 3) := by decide +kernel
theorem dX9_gap_58 : decode cX9_gap 58 = .ok (.isub, 1) := by decide +kernel
theorem dX9_gap_59 : decode cX9_gap 59 = .ok (.ireturn, 1) := by decide +kernel
theorem dX9_off_0 : decode cX9_off 0 = .ok (.aload_n 0, 1) := by decide +kernel
theorem dX9_off_1 : decode cX9_off 1 = .ok (.iload_n 1, 1) := by decide +kernel
theorem dX9_off_2 : decode cX9_off 2 = .ok (.invokevirtual 100, 3) := by decide +kernel
theorem dX9_off_5 : decode cX9_off 5 = .ok (.astore 4, 2) := by decide +kernel
theorem dX9_off_7 : decode cX9_off 7 = .ok (.aload 4, 2) := by decide +kernel
theorem dX9_off_9 : decode cX9_off 9 = .ok (.ifnull 11, 3) := by decide +kernel
theorem dX9_off_12 : decode cX9_off 12 = .ok (.iload_n 2, 1) := by decide +kernel
theorem dX9_off_13 : decode cX9_off 13 = .ok (.iload_n 3, 1) := by decide +kernel
theorem dX9_off_14 : decode cX9_off 14 = .ok (.invokestatic 72, 3) := by decide +kernel
theorem dX9_off_17 : decode cX9_off 17 = .ok (.ifCond .ne 5, 3) := by decide +kernel
theorem dX9_off_20 : decode cX9_off 20 = .ok (.iconst (-1), 1) := by decide +kernel
theorem dX9_off_21 : decode cX9_off 21 = .ok (.ireturn, 1) := by decide +kernel
theorem dX9_off_22 : decode cX9_off 22 = .ok (.aload 4, 2) := by decide +kernel
theorem dX9_off_24 : decode cX9_off 24 = .ok (.getfield 167, 3) := by decide +kernel
theorem dX9_off_27 : decode cX9_off 27 = .ok (.new 73, 3) := by decide +kernel
theorem dX9_off_30 : decode cX9_off 30 = .ok (.dup, 1) := by decide +kernel
theorem dX9_off_31 : decode cX9_off 31 = .ok (.iload_n 2, 1) := by decide +kernel
theorem dX9_off_32 : decode cX9_off 32 = .ok (.iload_n 3, 1) := by decide +kernel
theorem dX9_off_33 : decode cX9_off 33 = .ok (.invokespecial 85, 3) := by decide +kernel
theorem dX9_off_36 : decode cX9_off 36 = .ok (.invokevirtual 171, 3) := by decide +kernel
theorem dX9_off_39 : decode cX9_off 39 = .ok (.ireturn, 1) := by decide +kernel
theorem dX9_feed_0 : decode cX9_feed 0 = .ok (.iconst 0, 1) := by decide +kernel
theorem dX9_feed_1 : decode cX9_feed 1 = .ok (.istore_n 2, 1) := by decide +kernel
theorem dX9_feed_2 : decode cX9_feed 2 = .ok (.bipush 24, 2) := by decide +kernel
theorem dX9_feed_4 : decode cX9_feed 4 = .ok (.istore_n 3, 1) := by decide +kernel
theorem dX9_feed_5 : decode cX9_feed 5 = .ok (.iload_n 3, 1) := by decide +kernel
theorem dX9_feed_6 : decode cX9_feed 6 = .ok (.ifCond .lt 22, 3) := by decide +kernel
theorem dX9_feed_9 : decode cX9_feed 9 = .ok (.iload_n 1, 1) := by decide +kernel
theorem dX9_feed_10 : decode cX9_feed 10 = .ok (.iload_n 3, 1) := by decide +kernel
theorem dX9_feed_11 : decode cX9_feed 11 = .ok (.iushr, 1) := by decide +kernel
theorem dX9_feed_12 : decode cX9_feed 12 = .ok (.sipush 255, 3) := by decide +kernel
theorem dX9_feed_15 : decode cX9_feed 15 = .ok (.iand, 1) := by decide +kernel
theorem dX9_feed_16 : decode cX9_feed 16 = .ok (.ifCond .eq 6, 3) := by decide +kernel
theorem dX9_feed_19 : decode cX9_feed 19 = .ok (.iinc 2 1, 3) := by decide +kernel
theorem dX9_feed_22 : decode cX9_feed 22 = .ok (.iinc 3 (-8), 3) := by decide +kernel
theorem dX9_feed_25 : decode cX9_feed 25 = .ok (.goto (-20), 3) := by decide +kernel
theorem dX9_feed_28 : decode cX9_feed 28 = .ok (.aload_n 0, 1) := by decide +kernel
theorem dX9_feed_29 : decode cX9_feed 29 = .ok (.getfield 30, 3) := by decide +kernel
theorem dX9_feed_32 : decode cX9_feed 32 = .ok (.getfield 175, 3) := by decide +kernel
theorem dX9_feed_35 : decode cX9_feed 35 = .ok (.iload_n 2, 1) := by decide +kernel
theorem dX9_feed_36 : decode cX9_feed 36 = .ok (.iadd, 1) := by decide +kernel
theorem dX9_feed_37 : decode cX9_feed 37 = .ok (.bipush 100, 2) := by decide +kernel
theorem dX9_feed_39 : decode cX9_feed 39 = .ok (.if_icmp .le 5, 3) := by decide +kernel
theorem dX9_feed_42 : decode cX9_feed 42 = .ok (.iconst (-1), 1) := by decide +kernel
theorem dX9_feed_43 : decode cX9_feed 43 = .ok (.ireturn, 1) := by decide +kernel
theorem dX9_feed_44 : decode cX9_feed 44 = .ok (.bipush 24, 2) := by decide +kernel
theorem dX9_feed_46 : decode cX9_feed 46 = .ok (.istore_n 3, 1) := by decide +kernel
theorem dX9_feed_47 : decode cX9_feed 47 = .ok (.iload_n 3, 1) := by decide +kernel
theorem dX9_feed_48 : decode cX9_feed 48 = .ok (.ifCond .lt 23, 3) := by decide +kernel
theorem dX9_feed_51 : decode cX9_feed 51 = .ok (.aload_n 0, 1) := by decide +kernel
theorem dX9_feed_52 : decode cX9_feed 52 = .ok (.getfield 30, 3) := by decide +kernel
theorem dX9_feed_55 : decode cX9_feed 55 = .ok (.iload_n 1, 1) := by decide +kernel
theorem dX9_feed_56 : decode cX9_feed 56 = .ok (.iload_n 3, 1) := by decide +kernel
theorem dX9_feed_57 : decode cX9_feed 57 = .ok (.iushr, 1) := by decide +kernel
theorem dX9_feed_58 : decode cX9_feed 58 = .ok (.sipush 255, 3) := by decide +kernel
theorem dX9_feed_61 : decode cX9_feed 61 = .ok (.iand, 1) := by decide +kernel
theorem dX9_feed_62 : decode cX9_feed 62 = .ok (.invokevirtual 178, 3) := by decide +kernel
theorem dX9_feed_65 : decode cX9_feed 65 = .ok (.iinc 3 (-8), 3) := by decide +kernel
theorem dX9_feed_68 : decode cX9_feed 68 = .ok (.goto (-21), 3) := by decide +kernel
theorem dX9_feed_71 : decode cX9_feed 71 = .ok (.aload_n 0, 1) := by decide +kernel
theorem dX9_feed_72 : decode cX9_feed 72 = .ok (.getfield 30, 3) := by decide +kernel
theorem dX9_feed_75 : decode cX9_feed 75 = .ok (.getfield 175, 3) := by decide +kernel
theorem dX9_feed_78 : decode cX9_feed 78 = .ok (.ireturn, 1) := by decide +kernel
theorem dX9_end_0 : decode cX9_end 0 = .ok (.iload_n 1, 1) := by decide +kernel
theorem dX9_end_1 : decode cX9_end 1 = .ok (.iconst 0, 1) := by decide +kernel
theorem dX9_end_2 : decode cX9_end 2 = .ok (.aload_n 0, 1) := by decide +kernel
theorem dX9_end_3 : decode cX9_end 3 = .ok (.getfield 30, 3) := by decide +kernel
theorem dX9_end_6 : decode cX9_end 6 = .ok (.getfield 175, 3) := by decide +kernel
theorem dX9_end_9 : decode cX9_end 9 = .ok (.invokestatic 47, 3) := by decide +kernel
theorem dX9_end_12 : decode cX9_end 12 = .ok (.ifCond .ne 5, 3) := by decide +kernel
theorem dX9_end_15 : decode cX9_end 15 = .ok (.iconst 0, 1) := by decide +kernel
theorem dX9_end_16 : decode cX9_end 16 = .ok (.ireturn, 1) := by decide +kernel
theorem dX9_end_17 : decode cX9_end 17 = .ok (.aload_n 0, 1) := by decide +kernel
theorem dX9_end_18 : decode cX9_end 18 = .ok (.getfield 30, 3) := by decide +kernel
theorem dX9_end_21 : decode cX9_end 21 = .ok (.iload_n 1, 1) := by decide +kernel
theorem dX9_end_22 : decode cX9_end 22 = .ok (.putfield 175, 3) := by decide +kernel
theorem dX9_end_25 : decode cX9_end 25 = .ok (.iconst 1, 1) := by decide +kernel
theorem dX9_end_26 : decode cX9_end 26 = .ok (.ireturn, 1) := by decide +kernel
theorem dX9_fault_0 : decode cX9_fault 0 = .ok (.aload_n 0, 1) := by decide +kernel
theorem dX9_fault_1 : decode cX9_fault 1 = .ok (.getfield 42, 3) := by decide +kernel
theorem dX9_fault_4 : decode cX9_fault 4 = .ok (.aload_n 0, 1) := by decide +kernel
theorem dX9_fault_5 : decode cX9_fault 5 = .ok (.getfield 30, 3) := by decide +kernel
theorem dX9_fault_8 : decode cX9_fault 8 = .ok (.invokevirtual 182, 3) := by decide +kernel
theorem dX9_fault_11 : decode cX9_fault 11 = .ok (.ireturn, 1) := by decide +kernel
theorem dX9_rule_0 : decode cX9_rule 0 = .ok (.aload_n 0, 1) := by decide +kernel
theorem dX9_rule_1 : decode cX9_rule 1 = .ok (.getfield 42, 3) := by decide +kernel
theorem dX9_rule_4 : decode cX9_rule 4 = .ok (.aload_n 0, 1) := by decide +kernel
theorem dX9_rule_5 : decode cX9_rule 5 = .ok (.getfield 30, 3) := by decide +kernel
theorem dX9_rule_8 : decode cX9_rule 8 = .ok (.invokevirtual 182, 3) := by decide +kernel
theorem dX9_rule_11 : decode cX9_rule 11 = .ok (.iconst (-1), 1) := by decide +kernel
theorem dX9_rule_12 : decode cX9_rule 12 = .ok (.if_icmp .eq 5, 3) := by decide +kernel
theorem dX9_rule_15 : decode cX9_rule 15 = .ok (.iconst 0, 1) := by decide +kernel
theorem dX9_rule_16 : decode cX9_rule 16 = .ok (.ireturn, 1) := by decide +kernel
theorem dX9_rule_17 : decode cX9_rule 17 = .ok (.aload_n 0, 1) := by decide +kernel
theorem dX9_rule_18 : decode cX9_rule 18 = .ok (.getfield 34, 3) := by decide +kernel
theorem dX9_rule_21 : decode cX9_rule 21 = .ok (.astore_n 1, 1) := by decide +kernel
theorem dX9_rule_22 : decode cX9_rule 22 = .ok (.aload_n 0, 1) := by decide +kernel
theorem dX9_rule_23 : decode cX9_rule 23 = .ok (.aload_n 0, 1) := by decide +kernel
theorem dX9_rule_24 : decode cX9_rule 24 = .ok (.getfield 30, 3) := by decide +kernel
theorem dX9_rule_27 : decode cX9_rule 27 = .ok (.putfield 34, 3) := by decide +kernel
theorem dX9_rule_30 : decode cX9_rule 30 = .ok (.aload_n 0, 1) := by decide +kernel
theorem dX9_rule_31 : decode cX9_rule 31 = .ok (.aload_n 1, 1) := by decide +kernel
theorem dX9_rule_32 : decode cX9_rule 32 = .ok (.putfield 30, 3) := by decide +kernel
theorem dX9_rule_35 : decode cX9_rule 35 = .ok (.aload_n 0, 1) := by decide +kernel
theorem dX9_rule_36 : decode cX9_rule 36 = .ok (.getfield 30, 3) := by decide +kernel
theorem dX9_rule_39 : decode cX9_rule 39 = .ok (.iconst 0, 1) := by decide +kernel
theorem dX9_rule_40 : decode cX9_rule 40 = .ok (.putfield 175, 3) := by decide +kernel
theorem dX9_rule_43 : decode cX9_rule 43 = .ok (.aload_n 0, 1) := by decide +kernel
theorem dX9_rule_44 : decode cX9_rule 44 = .ok (.dup, 1) := by decide +kernel
theorem dX9_rule_45 : decode cX9_rule 45 = .ok (.getfield 186, 3) := by decide +kernel
theorem dX9_rule_48 : decode cX9_rule 48 = .ok (.iconst 1, 1) := by decide +kernel
theorem dX9_rule_49 : decode cX9_rule 49 = .ok (.iadd, 1) := by decide +kernel
theorem dX9_rule_50 : decode cX9_rule 50 = .ok (.putfield 186, 3) := by decide +kernel
theorem dX9_rule_53 : decode cX9_rule 53 = .ok (.iconst 1, 1) := by decide +kernel
theorem dX9_rule_54 : decode cX9_rule 54 = .ok (.ireturn, 1) := by decide +kernel
theorem dX9_claim_0 : decode cX9_claim 0 = .ok (.iload_n 1, 1) := by decide +kernel
theorem dX9_claim_1 : decode cX9_claim 1 = .ok (.iload_n 2, 1) := by decide +kernel
theorem dX9_claim_2 : decode cX9_claim 2 = .ok (.invokestatic 72, 3) := by decide +kernel
theorem dX9_claim_5 : decode cX9_claim 5 = .ok (.ifCond .eq 26, 3) := by decide +kernel
theorem dX9_claim_8 : decode cX9_claim 8 = .ok (.iload_n 3, 1) := by decide +kernel
theorem dX9_claim_9 : decode cX9_claim 9 = .ok (.iconst 0, 1) := by decide +kernel
theorem dX9_claim_10 : decode cX9_claim 10 = .ok (.sipush 2000, 3) := by decide +kernel
theorem dX9_claim_13 : decode cX9_claim 13 = .ok (.invokestatic 47, 3) := by decide +kernel
theorem dX9_claim_16 : decode cX9_claim 16 = .ok (.ifCond .eq 15, 3) := by decide +kernel
theorem dX9_claim_19 : decode cX9_claim 19 = .ok (.iload 4, 2) := by decide +kernel
theorem dX9_claim_21 : decode cX9_claim 21 = .ok (.iload_n 3, 1) := by decide +kernel
theorem dX9_claim_22 : decode cX9_claim 22 = .ok (.sipush 2000, 3) := by decide +kernel
theorem dX9_claim_25 : decode cX9_claim 25 = .ok (.invokestatic 47, 3) := by decide +kernel
theorem dX9_claim_28 : decode cX9_claim 28 = .ok (.ifCond .ne 6, 3) := by decide +kernel
theorem dX9_claim_31 : decode cX9_claim 31 = .ok (.bipush (-3), 2) := by decide +kernel
theorem dX9_claim_33 : decode cX9_claim 33 = .ok (.ireturn, 1) := by decide +kernel
theorem dX9_claim_34 : decode cX9_claim 34 = .ok (.iload 5, 2) := by decide +kernel
theorem dX9_claim_36 : decode cX9_claim 36 = .ok (.iconst (-1), 1) := by decide +kernel
theorem dX9_claim_37 : decode cX9_claim 37 = .ok (.iconst 1, 1) := by decide +kernel
theorem dX9_claim_38 : decode cX9_claim 38 = .ok (.invokestatic 47, 3) := by decide +kernel
theorem dX9_claim_41 : decode cX9_claim 41 = .ok (.ifCond .eq 14, 3) := by decide +kernel
theorem dX9_claim_44 : decode cX9_claim 44 = .ok (.iload 6, 2) := by decide +kernel
theorem dX9_claim_46 : decode cX9_claim 46 = .ok (.iconst (-1), 1) := by decide +kernel
theorem dX9_claim_47 : decode cX9_claim 47 = .ok (.bipush 9, 2) := by decide +kernel
theorem dX9_claim_49 : decode cX9_claim 49 = .ok (.invokestatic 47, 3) := by decide +kernel
theorem dX9_claim_52 : decode cX9_claim 52 = .ok (.ifCond .ne 6, 3) := by decide +kernel
theorem dX9_claim_55 : decode cX9_claim 55 = .ok (.bipush (-3), 2) := by decide +kernel
theorem dX9_claim_57 : decode cX9_claim 57 = .ok (.ireturn, 1) := by decide +kernel
theorem dX9_claim_58 : decode cX9_claim 58 = .ok (.new 189, 3) := by decide +kernel
theorem dX9_claim_61 : decode cX9_claim 61 = .ok (.dup, 1) := by decide +kernel
theorem dX9_claim_62 : decode cX9_claim 62 = .ok (.new 73, 3) := by decide +kernel
theorem dX9_claim_65 : decode cX9_claim 65 = .ok (.dup, 1) := by decide +kernel
theorem dX9_claim_66 : decode cX9_claim 66 = .ok (.iload_n 1, 1) := by decide +kernel
theorem dX9_claim_67 : decode cX9_claim 67 = .ok (.iload_n 2, 1) := by decide +kernel
theorem dX9_claim_68 : decode cX9_claim 68 = .ok (.invokespecial 85, 3) := by decide +kernel
theorem dX9_claim_71 : decode cX9_claim 71 = .ok (.iload_n 3, 1) := by decide +kernel
theorem dX9_claim_72 : decode cX9_claim 72 = .ok (.iload 4, 2) := by decide +kernel
theorem dX9_claim_74 : decode cX9_claim 74 = .ok (.iload 5, 2) := by decide +kernel
theorem dX9_claim_76 : decode cX9_claim 76 = .ok (.iload 6, 2) := by decide +kernel
theorem dX9_claim_78 : decode cX9_claim 78 = .ok (.invokespecial 191, 3) := by decide +kernel
theorem dX9_claim_81 : decode cX9_claim 81 = .ok (.astore 7, 2) := by decide +kernel
theorem dX9_claim_83 : decode cX9_claim 83 = .ok (.aload_n 0, 1) := by decide +kernel
theorem dX9_claim_84 : decode cX9_claim 84 = .ok (.aload 7, 2) := by decide +kernel
theorem dX9_claim_86 : decode cX9_claim 86 = .ok (.invokevirtual 194, 3) := by decide +kernel
theorem dX9_claim_89 : decode cX9_claim 89 = .ok (.istore 8, 2) := by decide +kernel
theorem dX9_claim_91 : decode cX9_claim 91 = .ok (.iconst (-1), 1) := by decide +kernel
theorem dX9_claim_92 : decode cX9_claim 92 = .ok (.istore 9, 2) := by decide +kernel
theorem dX9_claim_94 : decode cX9_claim 94 = .ok (.iconst 0, 1) := by decide +kernel
theorem dX9_claim_95 : decode cX9_claim 95 = .ok (.istore 10, 2) := by decide +kernel
theorem dX9_claim_97 : decode cX9_claim 97 = .ok (.iload 10, 2) := by decide +kernel
theorem dX9_claim_99 : decode cX9_claim 99 = .ok (.aload_n 0, 1) := by decide +kernel
theorem dX9_claim_100 : decode cX9_claim 100 = .ok (.getfield 78, 3) := by decide +kernel
theorem dX9_claim_103 : decode cX9_claim 103 = .ok (.if_icmp .ge 71, 3) := by decide +kernel
theorem dX9_claim_106 : decode cX9_claim 106 = .ok (.aload_n 0, 1) := by decide +kernel
theorem dX9_claim_107 : decode cX9_claim 107 = .ok (.aload_n 0, 1) := by decide +kernel
theorem dX9_claim_108 : decode cX9_claim 108 = .ok (.getfield 17, 3) := by decide +kernel
theorem dX9_claim_111 : decode cX9_claim 111 = .ok (.iload 10, 2) := by decide +kernel
theorem dX9_claim_113 : decode cX9_claim 113 = .ok (.aaload, 1) := by decide +kernel
theorem dX9_claim_114 : decode cX9_claim 114 = .ok (.aload 7, 2) := by decide +kernel
theorem dX9_claim_116 : decode cX9_claim 116 = .ok (.iload 8, 2) := by decide +kernel
theorem dX9_claim_118 : decode cX9_claim 118 = .ok (.invokevirtual 198, 3) := by decide +kernel
theorem dX9_claim_121 : decode cX9_claim 121 = .ok (.aload_n 0, 1) := by decide +kernel
theorem dX9_claim_122 : decode cX9_claim 122 = .ok (.aload_n 0, 1) := by decide +kernel
theorem dX9_claim_123 : decode cX9_claim 123 = .ok (.getfield 17, 3) := by decide +kernel
theorem dX9_claim_126 : decode cX9_claim 126 = .ok (.iload 10, 2) := by decide +kernel
theorem dX9_claim_128 : decode cX9_claim 128 = .ok (.aaload, 1) := by decide +kernel
theorem dX9_claim_129 : decode cX9_claim 129 = .ok (.aload_n 0, 1) := by decide +kernel
theorem dX9_claim_130 : decode cX9_claim 130 = .ok (.getfield 51, 3) := by decide +kernel
theorem dX9_claim_133 : decode cX9_claim 133 = .ok (.invokevirtual 114, 3) := by decide +kernel
theorem dX9_claim_136 : decode cX9_claim 136 = .ok (.ifCond .ne 32, 3) := by decide +kernel
theorem dX9_claim_139 : decode cX9_claim 139 = .ok (.aload_n 0, 1) := by decide +kernel
theorem dX9_claim_140 : decode cX9_claim 140 = .ok (.getfield 42, 3) := by decide +kernel
theorem dX9_claim_143 : decode cX9_claim 143 = .ok (.aload_n 0, 1) := by decide +kernel
theorem dX9_claim_144 : decode cX9_claim 144 = .ok (.getfield 34, 3) := by decide +kernel
theorem dX9_claim_147 : decode cX9_claim 147 = .ok (.invokevirtual 202, 3) := by decide +kernel
theorem dX9_claim_150 : decode cX9_claim 150 = .ok (.ifCond .eq 18, 3) := by decide +kernel
theorem dX9_claim_153 : decode cX9_claim 153 = .ok (.iload 9, 2) := by decide +kernel
theorem dX9_claim_155 : decode cX9_claim 155 = .ok (.iconst (-1), 1) := by decide +kernel
theorem dX9_claim_156 : decode cX9_claim 156 = .ok (.if_icmp .ne 8, 3) := by decide +kernel
theorem dX9_claim_159 : decode cX9_claim 159 = .ok (.iload 10, 2) := by decide +kernel
theorem dX9_claim_161 : decode cX9_claim 161 = .ok (.goto 5, 3) := by decide +kernel
theorem dX9_claim_164 : decode cX9_claim 164 = .ok (.bipush (-2), 2) := by decide +kernel
theorem dX9_claim_166 : decode cX9_claim 166 = .ok (.istore 9, 2) := by decide +kernel
theorem dX9_claim_168 : decode cX9_claim 168 = .ok (.iinc 10 1, 3) := by decide +kernel
theorem dX9_claim_171 : decode cX9_claim 171 = .ok (.goto (-74), 3) := by decide +kernel
theorem dX9_claim_174 : decode cX9_claim 174 = .ok (.iload 9, 2) := by decide +kernel
theorem dX9_claim_176 : decode cX9_claim 176 = .ok (.ireturn, 1) := by decide +kernel
theorem dX9_name_0 : decode cX9_name 0 = .ok (.aload_n 0, 1) := by decide +kernel
theorem dX9_name_1 : decode cX9_name 1 = .ok (.iload_n 1, 1) := by decide +kernel
theorem dX9_name_2 : decode cX9_name 2 = .ok (.invokevirtual 100, 3) := by decide +kernel
theorem dX9_name_5 : decode cX9_name 5 = .ok (.astore_n 3, 1) := by decide +kernel
theorem dX9_name_6 : decode cX9_name 6 = .ok (.aload_n 3, 1) := by decide +kernel
theorem dX9_name_7 : decode cX9_name 7 = .ok (.ifnull 20, 3) := by decide +kernel
theorem dX9_name_10 : decode cX9_name 10 = .ok (.iload_n 2, 1) := by decide +kernel
theorem dX9_name_11 : decode cX9_name 11 = .ok (.iconst 1, 1) := by decide +kernel
theorem dX9_name_12 : decode cX9_name 12 = .ok (.ldc 206, 2) := by decide +kernel
theorem dX9_name_14 : decode cX9_name 14 = .ok (.invokestatic 47, 3) := by decide +kernel
theorem dX9_name_17 : decode cX9_name 17 = .ok (.ifCond .eq 10, 3) := by decide +kernel
theorem dX9_name_20 : decode cX9_name 20 = .ok (.aload_n 3, 1) := by decide +kernel
theorem dX9_name_21 : decode cX9_name 21 = .ok (.getfield 207, 3) := by decide +kernel
theorem dX9_name_24 : decode cX9_name 24 = .ok (.ifCond .eq 5, 3) := by decide +kernel
theorem dX9_name_27 : decode cX9_name 27 = .ok (.iconst 0, 1) := by decide +kernel
theorem dX9_name_28 : decode cX9_name 28 = .ok (.ireturn, 1) := by decide +kernel
theorem dX9_name_29 : decode cX9_name 29 = .ok (.aload_n 3, 1) := by decide +kernel
theorem dX9_name_30 : decode cX9_name 30 = .ok (.iload_n 2, 1) := by decide +kernel
theorem dX9_name_31 : decode cX9_name 31 = .ok (.putfield 207, 3) := by decide +kernel
theorem dX9_name_34 : decode cX9_name 34 = .ok (.iconst 1, 1) := by decide +kernel
theorem dX9_name_35 : decode cX9_name 35 = .ok (.ireturn, 1) := by decide +kernel
theorem dX9_allow_0 : decode cX9_allow 0 = .ok (.aload_n 0, 1) := by decide +kernel
theorem dX9_allow_1 : decode cX9_allow 1 = .ok (.iload_n 2, 1) := by decide +kernel
theorem dX9_allow_2 : decode cX9_allow 2 = .ok (.invokevirtual 100, 3) := by decide +kernel
theorem dX9_allow_5 : decode cX9_allow 5 = .ok (.astore 4, 2) := by decide +kernel
theorem dX9_allow_7 : decode cX9_allow 7 = .ok (.aload 4, 2) := by decide +kernel
theorem dX9_allow_9 : decode cX9_allow 9 = .ok (.ifnull 20, 3) := by decide +kernel
theorem dX9_allow_12 : decode cX9_allow 12 = .ok (.iload_n 1, 1) := by decide +kernel
theorem dX9_allow_13 : decode cX9_allow 13 = .ok (.invokestatic 210, 3) := by decide +kernel
theorem dX9_allow_16 : decode cX9_allow 16 = .ok (.ifCond .eq 13, 3) := by decide +kernel
theorem dX9_allow_19 : decode cX9_allow 19 = .ok (.aload 4, 2) := by decide +kernel
theorem dX9_allow_21 : decode cX9_allow 21 = .ok (.iload_n 1, 1) := by decide +kernel
theorem dX9_allow_22 : decode cX9_allow 22 = .ok (.invokevirtual 213, 3) := by decide +kernel
theorem dX9_allow_25 : decode cX9_allow 25 = .ok (.iload_n 3, 1) := by decide +kernel
theorem dX9_allow_26 : decode cX9_allow 26 = .ok (.if_icmp .ne 5, 3) := by decide +kernel
theorem dX9_allow_29 : decode cX9_allow 29 = .ok (.iconst 0, 1) := by decide +kernel
theorem dX9_allow_30 : decode cX9_allow 30 = .ok (.ireturn, 1) := by decide +kernel
theorem dX9_allow_31 : decode cX9_allow 31 = .ok (.aload 4, 2) := by decide +kernel
theorem dX9_allow_33 : decode cX9_allow 33 = .ok (.dup, 1) := by decide +kernel
theorem dX9_allow_34 : decode cX9_allow 34 = .ok (.getfield 216, 3) := by decide +kernel
theorem dX9_allow_37 : decode cX9_allow 37 = .ok (.iconst 1, 1) := by decide +kernel
theorem dX9_allow_38 : decode cX9_allow 38 = .ok (.iload_n 1, 1) := by decide +kernel
theorem dX9_allow_39 : decode cX9_allow 39 = .ok (.ishl, 1) := by decide +kernel
theorem dX9_allow_40 : decode cX9_allow 40 = .ok (.ixor, 1) := by decide +kernel
theorem dX9_allow_41 : decode cX9_allow 41 = .ok (.putfield 216, 3) := by decide +kernel
theorem dX9_allow_44 : decode cX9_allow 44 = .ok (.iconst 1, 1) := by decide +kernel
theorem dX9_allow_45 : decode cX9_allow 45 = .ok (.ireturn, 1) := by decide +kernel
theorem dX9_ask_0 : decode cX9_ask 0 = .ok (.aload_n 0, 1) := by decide +kernel
theorem dX9_ask_1 : decode cX9_ask 1 = .ok (.iload_n 2, 1) := by decide +kernel
theorem dX9_ask_2 : decode cX9_ask 2 = .ok (.invokevirtual 100, 3) := by decide +kernel
theorem dX9_ask_5 : decode cX9_ask 5 = .ok (.astore_n 3, 1) := by decide +kernel
theorem dX9_ask_6 : decode cX9_ask 6 = .ok (.aload_n 3, 1) := by decide +kernel
theorem dX9_ask_7 : decode cX9_ask 7 = .ok (.ifnull 10, 3) := by decide +kernel
theorem dX9_ask_10 : decode cX9_ask 10 = .ok (.iload_n 1, 1) := by decide +kernel
theorem dX9_ask_11 : decode cX9_ask 11 = .ok (.invokestatic 210, 3) := by decide +kernel
theorem dX9_ask_14 : decode cX9_ask 14 = .ok (.ifCond .ne 5, 3) := by decide +kernel
theorem dX9_ask_17 : decode cX9_ask 17 = .ok (.iconst (-1), 1) := by decide +kernel
theorem dX9_ask_18 : decode cX9_ask 18 = .ok (.ireturn, 1) := by decide +kernel
theorem dX9_ask_19 : decode cX9_ask 19 = .ok (.aload_n 3, 1) := by decide +kernel
theorem dX9_ask_20 : decode cX9_ask 20 = .ok (.iload_n 1, 1) := by decide +kernel
theorem dX9_ask_21 : decode cX9_ask 21 = .ok (.invokevirtual 213, 3) := by decide +kernel
theorem dX9_ask_24 : decode cX9_ask 24 = .ok (.ifCond .eq 10, 3) := by decide +kernel
theorem dX9_ask_27 : decode cX9_ask 27 = .ok (.aload_n 3, 1) := by decide +kernel
theorem dX9_ask_28 : decode cX9_ask 28 = .ok (.getfield 207, 3) := by decide +kernel
theorem dX9_ask_31 : decode cX9_ask 31 = .ok (.goto 4, 3) := by decide +kernel
theorem dX9_ask_34 : decode cX9_ask 34 = .ok (.iconst 0, 1) := by decide +kernel
theorem dX9_ask_35 : decode cX9_ask 35 = .ok (.ireturn, 1) := by decide +kernel
theorem dX9_guess_0 : decode cX9_guess 0 = .ok (.aload_n 0, 1) := by decide +kernel
theorem dX9_guess_1 : decode cX9_guess 1 = .ok (.iload_n 2, 1) := by decide +kernel
theorem dX9_guess_2 : decode cX9_guess 2 = .ok (.invokevirtual 100, 3) := by decide +kernel
theorem dX9_guess_5 : decode cX9_guess 5 = .ok (.astore 4, 2) := by decide +kernel
theorem dX9_guess_7 : decode cX9_guess 7 = .ok (.aload 4, 2) := by decide +kernel
theorem dX9_guess_9 : decode cX9_guess 9 = .ok (.ifnull 20, 3) := by decide +kernel
theorem dX9_guess_12 : decode cX9_guess 12 = .ok (.iload_n 1, 1) := by decide +kernel
theorem dX9_guess_13 : decode cX9_guess 13 = .ok (.invokestatic 210, 3) := by decide +kernel
theorem dX9_guess_16 : decode cX9_guess 16 = .ok (.ifCond .eq 13, 3) := by decide +kernel
theorem dX9_guess_19 : decode cX9_guess 19 = .ok (.iload_n 3, 1) := by decide +kernel
theorem dX9_guess_20 : decode cX9_guess 20 = .ok (.iconst 1, 1) := by decide +kernel
theorem dX9_guess_21 : decode cX9_guess 21 = .ok (.ldc 206, 2) := by decide +kernel
theorem dX9_guess_23 : decode cX9_guess 23 = .ok (.invokestatic 47, 3) := by decide +kernel
theorem dX9_guess_26 : decode cX9_guess 26 = .ok (.ifCond .ne 5, 3) := by decide +kernel
theorem dX9_guess_29 : decode cX9_guess 29 = .ok (.iconst (-1), 1) := by decide +kernel
theorem dX9_guess_30 : decode cX9_guess 30 = .ok (.ireturn, 1) := by decide +kernel
theorem dX9_guess_31 : decode cX9_guess 31 = .ok (.aload 4, 2) := by decide +kernel
theorem dX9_guess_33 : decode cX9_guess 33 = .ok (.iload_n 1, 1) := by decide +kernel
theorem dX9_guess_34 : decode cX9_guess 34 = .ok (.invokevirtual 213, 3) := by decide +kernel
theorem dX9_guess_37 : decode cX9_guess 37 = .ok (.ifCond .eq 16, 3) := by decide +kernel
theorem dX9_guess_40 : decode cX9_guess 40 = .ok (.aload 4, 2) := by decide +kernel
theorem dX9_guess_42 : decode cX9_guess 42 = .ok (.getfield 207, 3) := by decide +kernel
theorem dX9_guess_45 : decode cX9_guess 45 = .ok (.iload_n 3, 1) := by decide +kernel
theorem dX9_guess_46 : decode cX9_guess 46 = .ok (.if_icmp .ne 7, 3) := by decide +kernel
theorem dX9_guess_49 : decode cX9_guess 49 = .ok (.iconst 1, 1) := by decide +kernel
theorem dX9_guess_50 : decode cX9_guess 50 = .ok (.goto 4, 3) := by decide +kernel
theorem dX9_guess_53 : decode cX9_guess 53 = .ok (.iconst 0, 1) := by decide +kernel
theorem dX9_guess_54 : decode cX9_guess 54 = .ok (.ireturn, 1) := by decide +kernel
theorem dX9_told_0 : decode cX9_told 0 = .ok (.aload_n 0, 1) := by decide +kernel
theorem dX9_told_1 : decode cX9_told 1 = .ok (.iload_n 1, 1) := by decide +kernel
theorem dX9_told_2 : decode cX9_told 2 = .ok (.invokevirtual 100, 3) := by decide +kernel
theorem dX9_told_5 : decode cX9_told 5 = .ok (.astore_n 3, 1) := by decide +kernel
theorem dX9_told_6 : decode cX9_told 6 = .ok (.aload_n 3, 1) := by decide +kernel
theorem dX9_told_7 : decode cX9_told 7 = .ok (.ifnonnull 5, 3) := by decide +kernel
theorem dX9_told_10 : decode cX9_told 10 = .ok (.iconst (-1), 1) := by decide +kernel
theorem dX9_told_11 : decode cX9_told 11 = .ok (.ireturn, 1) := by decide +kernel
theorem dX9_told_12 : decode cX9_told 12 = .ok (.iload_n 2, 1) := by decide +kernel
theorem dX9_told_13 : decode cX9_told 13 = .ok (.tableswitch 93 0 7 #[47, 52, 57, 62, 70, 78, 83, 88], 47) := by decide +kernel
theorem dX9_told_60 : decode cX9_told 60 = .ok (.aload_n 3, 1) := by decide +kernel
theorem dX9_told_61 : decode cX9_told 61 = .ok (.getfield 108, 3) := by decide +kernel
theorem dX9_told_64 : decode cX9_told 64 = .ok (.ireturn, 1) := by decide +kernel
theorem dX9_told_65 : decode cX9_told 65 = .ok (.aload_n 3, 1) := by decide +kernel
theorem dX9_told_66 : decode cX9_told 66 = .ok (.getfield 219, 3) := by decide +kernel
theorem dX9_told_69 : decode cX9_told 69 = .ok (.ireturn, 1) := by decide +kernel
theorem dX9_told_70 : decode cX9_told 70 = .ok (.aload_n 3, 1) := by decide +kernel
theorem dX9_told_71 : decode cX9_told 71 = .ok (.getfield 222, 3) := by decide +kernel
theorem dX9_told_74 : decode cX9_told 74 = .ok (.ireturn, 1) := by decide +kernel
theorem dX9_told_75 : decode cX9_told 75 = .ok (.aload_n 3, 1) := by decide +kernel
theorem dX9_told_76 : decode cX9_told 76 = .ok (.getfield 167, 3) := by decide +kernel
theorem dX9_told_79 : decode cX9_told 79 = .ok (.getfield 225, 3) := by decide +kernel
theorem dX9_told_82 : decode cX9_told 82 = .ok (.ireturn, 1) := by decide +kernel
theorem dX9_told_83 : decode cX9_told 83 = .ok (.aload_n 3, 1) := by decide +kernel
theorem dX9_told_84 : decode cX9_told 84 = .ok (.getfield 167, 3) := by decide +kernel
theorem dX9_told_87 : decode cX9_told 87 = .ok (.getfield 228, 3) := by decide +kernel
theorem dX9_told_90 : decode cX9_told 90 = .ok (.ireturn, 1) := by decide +kernel
theorem dX9_told_91 : decode cX9_told 91 = .ok (.aload_n 3, 1) := by decide +kernel
theorem dX9_told_92 : decode cX9_told 92 = .ok (.getfield 231, 3) := by decide +kernel
theorem dX9_told_95 : decode cX9_told 95 = .ok (.ireturn, 1) := by decide +kernel
theorem dX9_told_96 : decode cX9_told 96 = .ok (.aload_n 3, 1) := by decide +kernel
theorem dX9_told_97 : decode cX9_told 97 = .ok (.getfield 234, 3) := by decide +kernel
theorem dX9_told_100 : decode cX9_told 100 = .ok (.ireturn, 1) := by decide +kernel
theorem dX9_told_101 : decode cX9_told 101 = .ok (.aload_n 3, 1) := by decide +kernel
theorem dX9_told_102 : decode cX9_told 102 = .ok (.getfield 131, 3) := by decide +kernel
theorem dX9_told_105 : decode cX9_told 105 = .ok (.ireturn, 1) := by decide +kernel
theorem dX9_told_106 : decode cX9_told 106 = .ok (.iconst (-1), 1) := by decide +kernel
theorem dX9_told_107 : decode cX9_told 107 = .ok (.ireturn, 1) := by decide +kernel
theorem dX9_count_0 : decode cX9_count 0 = .ok (.iload_n 1, 1) := by decide +kernel
theorem dX9_count_1 : decode cX9_count 1 = .ok (.tableswitch 99 0 7 #[47, 52, 57, 62, 67, 72, 80, 85], 47) := by decide +kernel
theorem dX9_count_48 : decode cX9_count 48 = .ok (.aload_n 0, 1) := by decide +kernel
theorem dX9_count_49 : decode cX9_count 49 = .ok (.getfield 51, 3) := by decide +kernel
theorem dX9_count_52 : decode cX9_count 52 = .ok (.ireturn, 1) := by decide +kernel
theorem dX9_count_53 : decode cX9_count 53 = .ok (.aload_n 0, 1) := by decide +kernel
theorem dX9_count_54 : decode cX9_count 54 = .ok (.getfield 78, 3) := by decide +kernel
theorem dX9_count_57 : decode cX9_count 57 = .ok (.ireturn, 1) := by decide +kernel
theorem dX9_count_58 : decode cX9_count 58 = .ok (.aload_n 0, 1) := by decide +kernel
theorem dX9_count_59 : decode cX9_count 59 = .ok (.getfield 55, 3) := by decide +kernel
theorem dX9_count_62 : decode cX9_count 62 = .ok (.ireturn, 1) := by decide +kernel
theorem dX9_count_63 : decode cX9_count 63 = .ok (.aload_n 0, 1) := by decide +kernel
theorem dX9_count_64 : decode cX9_count 64 = .ok (.getfield 111, 3) := by decide +kernel
theorem dX9_count_67 : decode cX9_count 67 = .ok (.ireturn, 1) := by decide +kernel
theorem dX9_count_68 : decode cX9_count 68 = .ok (.aload_n 0, 1) := by decide +kernel
theorem dX9_count_69 : decode cX9_count 69 = .ok (.getfield 149, 3) := by decide +kernel
theorem dX9_count_72 : decode cX9_count 72 = .ok (.ireturn, 1) := by decide +kernel
theorem dX9_count_73 : decode cX9_count 73 = .ok (.aload_n 0, 1) := by decide +kernel
theorem dX9_count_74 : decode cX9_count 74 = .ok (.getfield 30, 3) := by decide +kernel
theorem dX9_count_77 : decode cX9_count 77 = .ok (.getfield 175, 3) := by decide +kernel
theorem dX9_count_80 : decode cX9_count 80 = .ok (.ireturn, 1) := by decide +kernel
theorem dX9_count_81 : decode cX9_count 81 = .ok (.aload_n 0, 1) := by decide +kernel
theorem dX9_count_82 : decode cX9_count 82 = .ok (.getfield 186, 3) := by decide +kernel
theorem dX9_count_85 : decode cX9_count 85 = .ok (.ireturn, 1) := by decide +kernel
theorem dX9_count_86 : decode cX9_count 86 = .ok (.aload_n 0, 1) := by decide +kernel
theorem dX9_count_87 : decode cX9_count 87 = .ok (.iconst 0, 1) := by decide +kernel
theorem dX9_count_88 : decode cX9_count 88 = .ok (.aload_n 0, 1) := by decide +kernel
theorem dX9_count_89 : decode cX9_count 89 = .ok (.getfield 51, 3) := by decide +kernel
theorem dX9_count_92 : decode cX9_count 92 = .ok (.aload_n 0, 1) := by decide +kernel
theorem dX9_count_93 : decode cX9_count 93 = .ok (.getfield 51, 3) := by decide +kernel
theorem dX9_count_96 : decode cX9_count 96 = .ok (.invokevirtual 152, 3) := by decide +kernel
theorem dX9_count_99 : decode cX9_count 99 = .ok (.ireturn, 1) := by decide +kernel
theorem dX9_count_100 : decode cX9_count 100 = .ok (.iconst (-1), 1) := by decide +kernel
theorem dX9_count_101 : decode cX9_count 101 = .ok (.ireturn, 1) := by decide +kernel
theorem dX9_within_0 : decode cX9_within 0 = .ok (.iload_n 0, 1) := by decide +kernel
theorem dX9_within_1 : decode cX9_within 1 = .ok (.iload_n 1, 1) := by decide +kernel
theorem dX9_within_2 : decode cX9_within 2 = .ok (.if_icmp .lt 12, 3) := by decide +kernel
theorem dX9_within_5 : decode cX9_within 5 = .ok (.iload_n 0, 1) := by decide +kernel
theorem dX9_within_6 : decode cX9_within 6 = .ok (.iload_n 2, 1) := by decide +kernel
theorem dX9_within_7 : decode cX9_within 7 = .ok (.if_icmp .gt 7, 3) := by decide +kernel
theorem dX9_within_10 : decode cX9_within 10 = .ok (.iconst 1, 1) := by decide +kernel
theorem dX9_within_11 : decode cX9_within 11 = .ok (.goto 4, 3) := by decide +kernel
theorem dX9_within_14 : decode cX9_within 14 = .ok (.iconst 0, 1) := by decide +kernel
theorem dX9_within_15 : decode cX9_within 15 = .ok (.ireturn, 1) := by decide +kernel
theorem dX9_isPlace_0 : decode cX9_isPlace 0 = .ok (.iload_n 0, 1) := by decide +kernel
theorem dX9_isPlace_1 : decode cX9_isPlace 1 = .ok (.iconst 0, 1) := by decide +kernel
theorem dX9_isPlace_2 : decode cX9_isPlace 2 = .ok (.bipush 15, 2) := by decide +kernel
theorem dX9_isPlace_4 : decode cX9_isPlace 4 = .ok (.invokestatic 47, 3) := by decide +kernel
theorem dX9_isPlace_7 : decode cX9_isPlace 7 = .ok (.ireturn, 1) := by decide +kernel
theorem dX9_isWho_0 : decode cX9_isWho 0 = .ok (.iload_n 0, 1) := by decide +kernel
theorem dX9_isWho_1 : decode cX9_isWho 1 = .ok (.iconst 0, 1) := by decide +kernel
theorem dX9_isWho_2 : decode cX9_isWho 2 = .ok (.bipush 19, 2) := by decide +kernel
theorem dX9_isWho_4 : decode cX9_isWho 4 = .ok (.invokestatic 47, 3) := by decide +kernel
theorem dX9_isWho_7 : decode cX9_isWho 7 = .ok (.ireturn, 1) := by decide +kernel
theorem dX9_areWeeks_0 : decode cX9_areWeeks 0 = .ok (.iload_n 0, 1) := by decide +kernel
theorem dX9_areWeeks_1 : decode cX9_areWeeks 1 = .ok (.iconst 0, 1) := by decide +kernel
theorem dX9_areWeeks_2 : decode cX9_areWeeks 2 = .ok (.sipush 300, 3) := by decide +kernel
theorem dX9_areWeeks_5 : decode cX9_areWeeks 5 = .ok (.invokestatic 47, 3) := by decide +kernel
theorem dX9_areWeeks_8 : decode cX9_areWeeks 8 = .ok (.ifCond .eq 18, 3) := by decide +kernel
theorem dX9_areWeeks_11 : decode cX9_areWeeks 11 = .ok (.iload_n 1, 1) := by decide +kernel
theorem dX9_areWeeks_12 : decode cX9_areWeeks 12 = .ok (.iload_n 0, 1) := by decide +kernel
theorem dX9_areWeeks_13 : decode cX9_areWeeks 13 = .ok (.sipush 300, 3) := by decide +kernel
theorem dX9_areWeeks_16 : decode cX9_areWeeks 16 = .ok (.invokestatic 47, 3) := by decide +kernel
theorem dX9_areWeeks_19 : decode cX9_areWeeks 19 = .ok (.ifCond .eq 7, 3) := by decide +kernel
theorem dX9_areWeeks_22 : decode cX9_areWeeks 22 = .ok (.iconst 1, 1) := by decide +kernel
theorem dX9_areWeeks_23 : decode cX9_areWeeks 23 = .ok (.goto 4, 3) := by decide +kernel
theorem dX9_areWeeks_26 : decode cX9_areWeeks 26 = .ok (.iconst 0, 1) := by decide +kernel
theorem dX9_areWeeks_27 : decode cX9_areWeeks 27 = .ok (.ireturn, 1) := by decide +kernel
theorem dX9_isPast_0 : decode cX9_isPast 0 = .ok (.iload_n 1, 1) := by decide +kernel
theorem dX9_isPast_1 : decode cX9_isPast 1 = .ok (.iconst 0, 1) := by decide +kernel
theorem dX9_isPast_2 : decode cX9_isPast 2 = .ok (.aload_n 0, 1) := by decide +kernel
theorem dX9_isPast_3 : decode cX9_isPast 3 = .ok (.getfield 51, 3) := by decide +kernel
theorem dX9_isPast_6 : decode cX9_isPast 6 = .ok (.invokestatic 47, 3) := by decide +kernel
theorem dX9_isPast_9 : decode cX9_isPast 9 = .ok (.ireturn, 1) := by decide +kernel
theorem dX9_findBallot_0 : decode cX9_findBallot 0 = .ok (.iload_n 1, 1) := by decide +kernel
theorem dX9_findBallot_1 : decode cX9_findBallot 1 = .ok (.iconst 0, 1) := by decide +kernel
theorem dX9_findBallot_2 : decode cX9_findBallot 2 = .ok (.aload_n 0, 1) := by decide +kernel
theorem dX9_findBallot_3 : decode cX9_findBallot 3 = .ok (.getfield 55, 3) := by decide +kernel
theorem dX9_findBallot_6 : decode cX9_findBallot 6 = .ok (.iconst 1, 1) := by decide +kernel
theorem dX9_findBallot_7 : decode cX9_findBallot 7 = .ok (.isub, 1) := by decide +kernel
theorem dX9_findBallot_8 : decode cX9_findBallot 8 = .ok (.invokestatic 47, 3) := by decide +kernel
theorem dX9_findBallot_11 : decode cX9_findBallot 11 = .ok (.ifCond .eq 12, 3) := by decide +kernel
theorem dX9_findBallot_14 : decode cX9_findBallot 14 = .ok (.aload_n 0, 1) := by decide +kernel
theorem dX9_findBallot_15 : decode cX9_findBallot 15 = .ok (.getfield 11, 3) := by decide +kernel
theorem dX9_findBallot_18 : decode cX9_findBallot 18 = .ok (.iload_n 1, 1) := by decide +kernel
theorem dX9_findBallot_19 : decode cX9_findBallot 19 = .ok (.aaload, 1) := by decide +kernel
theorem dX9_findBallot_20 : decode cX9_findBallot 20 = .ok (.goto 4, 3) := by decide +kernel
theorem dX9_findBallot_23 : decode cX9_findBallot 23 = .ok (.aconst_null, 1) := by decide +kernel
theorem dX9_findBallot_24 : decode cX9_findBallot 24 = .ok (.areturn, 1) := by decide +kernel
theorem dX9_findChild_0 : decode cX9_findChild 0 = .ok (.iload_n 1, 1) := by decide +kernel
theorem dX9_findChild_1 : decode cX9_findChild 1 = .ok (.iconst 0, 1) := by decide +kernel
theorem dX9_findChild_2 : decode cX9_findChild 2 = .ok (.aload_n 0, 1) := by decide +kernel
theorem dX9_findChild_3 : decode cX9_findChild 3 = .ok (.getfield 78, 3) := by decide +kernel
theorem dX9_findChild_6 : decode cX9_findChild 6 = .ok (.iconst 1, 1) := by decide +kernel
theorem dX9_findChild_7 : decode cX9_findChild 7 = .ok (.isub, 1) := by decide +kernel
theorem dX9_findChild_8 : decode cX9_findChild 8 = .ok (.invokestatic 47, 3) := by decide +kernel
theorem dX9_findChild_11 : decode cX9_findChild 11 = .ok (.ifCond .eq 12, 3) := by decide +kernel
theorem dX9_findChild_14 : decode cX9_findChild 14 = .ok (.aload_n 0, 1) := by decide +kernel
theorem dX9_findChild_15 : decode cX9_findChild 15 = .ok (.getfield 17, 3) := by decide +kernel
theorem dX9_findChild_18 : decode cX9_findChild 18 = .ok (.iload_n 1, 1) := by decide +kernel
theorem dX9_findChild_19 : decode cX9_findChild 19 = .ok (.aaload, 1) := by decide +kernel
theorem dX9_findChild_20 : decode cX9_findChild 20 = .ok (.goto 4, 3) := by decide +kernel
theorem dX9_findChild_23 : decode cX9_findChild 23 = .ok (.aconst_null, 1) := by decide +kernel
theorem dX9_findChild_24 : decode cX9_findChild 24 = .ok (.areturn, 1) := by decide +kernel
theorem dX9_findNurse_0 : decode cX9_findNurse 0 = .ok (.iload_n 1, 1) := by decide +kernel
theorem dX9_findNurse_1 : decode cX9_findNurse 1 = .ok (.iconst 1, 1) := by decide +kernel
theorem dX9_findNurse_2 : decode cX9_findNurse 2 = .ok (.bipush 12, 2) := by decide +kernel
theorem dX9_findNurse_4 : decode cX9_findNurse 4 = .ok (.invokestatic 47, 3) := by decide +kernel
theorem dX9_findNurse_7 : decode cX9_findNurse 7 = .ok (.ifCond .eq 12, 3) := by decide +kernel
theorem dX9_findNurse_10 : decode cX9_findNurse 10 = .ok (.aload_n 0, 1) := by decide +kernel
theorem dX9_findNurse_11 : decode cX9_findNurse 11 = .ok (.getfield 23, 3) := by decide +kernel
theorem dX9_findNurse_14 : decode cX9_findNurse 14 = .ok (.iload_n 1, 1) := by decide +kernel
theorem dX9_findNurse_15 : decode cX9_findNurse 15 = .ok (.aaload, 1) := by decide +kernel
theorem dX9_findNurse_16 : decode cX9_findNurse 16 = .ok (.goto 4, 3) := by decide +kernel
theorem dX9_findNurse_19 : decode cX9_findNurse 19 = .ok (.aconst_null, 1) := by decide +kernel
theorem dX9_findNurse_20 : decode cX9_findNurse 20 = .ok (.areturn, 1) := by decide +kernel
theorem dX9_isGone_0 : decode cX9_isGone 0 = .ok (.aload_n 1, 1) := by decide +kernel
theorem dX9_isGone_1 : decode cX9_isGone 1 = .ok (.iload_n 2, 1) := by decide +kernel
theorem dX9_isGone_2 : decode cX9_isGone 2 = .ok (.aload_n 0, 1) := by decide +kernel
theorem dX9_isGone_3 : decode cX9_isGone 3 = .ok (.getfield 51, 3) := by decide +kernel
theorem dX9_isGone_6 : decode cX9_isGone 6 = .ok (.invokevirtual 135, 3) := by decide +kernel
theorem dX9_isGone_9 : decode cX9_isGone 9 = .ok (.istore_n 3, 1) := by decide +kernel
theorem dX9_isGone_10 : decode cX9_isGone 10 = .ok (.iload_n 3, 1) := by decide +kernel
theorem dX9_isGone_11 : decode cX9_isGone 11 = .ok (.bipush 14, 2) := by decide +kernel
theorem dX9_isGone_13 : decode cX9_isGone 13 = .ok (.if_icmp .eq 9, 3) := by decide +kernel
theorem dX9_isGone_16 : decode cX9_isGone 16 = .ok (.iload_n 3, 1) := by decide +kernel
theorem dX9_isGone_17 : decode cX9_isGone 17 = .ok (.bipush 15, 2) := by decide +kernel
theorem dX9_isGone_19 : decode cX9_isGone 19 = .ok (.if_icmp .ne 7, 3) := by decide +kernel
theorem dX9_isGone_22 : decode cX9_isGone 22 = .ok (.iconst 1, 1) := by decide +kernel
theorem dX9_isGone_23 : decode cX9_isGone 23 = .ok (.goto 4, 3) := by decide +kernel
theorem dX9_isGone_26 : decode cX9_isGone 26 = .ok (.iconst 0, 1) := by decide +kernel
theorem dX9_isGone_27 : decode cX9_isGone 27 = .ok (.ireturn, 1) := by decide +kernel
theorem dX9_childrenAt_0 : decode cX9_childrenAt 0 = .ok (.iconst 0, 1) := by decide +kernel
theorem dX9_childrenAt_1 : decode cX9_childrenAt 1 = .ok (.istore 4, 2) := by decide +kernel
theorem dX9_childrenAt_3 : decode cX9_childrenAt 3 = .ok (.iconst 0, 1) := by decide +kernel
theorem dX9_childrenAt_4 : decode cX9_childrenAt 4 = .ok (.istore 5, 2) := by decide +kernel
theorem dX9_childrenAt_6 : decode cX9_childrenAt 6 = .ok (.iload 5, 2) := by decide +kernel
theorem dX9_childrenAt_8 : decode cX9_childrenAt 8 = .ok (.aload_n 0, 1) := by decide +kernel
theorem dX9_childrenAt_9 : decode cX9_childrenAt 9 = .ok (.getfield 78, 3) := by decide +kernel
theorem dX9_childrenAt_12 : decode cX9_childrenAt 12 = .ok (.if_icmp .ge 28, 3) := by decide +kernel
theorem dX9_childrenAt_15 : decode cX9_childrenAt 15 = .ok (.aload_n 0, 1) := by decide +kernel
theorem dX9_childrenAt_16 : decode cX9_childrenAt 16 = .ok (.getfield 17, 3) := by decide +kernel
theorem dX9_childrenAt_19 : decode cX9_childrenAt 19 = .ok (.iload 5, 2) := by decide +kernel
theorem dX9_childrenAt_21 : decode cX9_childrenAt 21 = .ok (.aaload, 1) := by decide +kernel
theorem dX9_childrenAt_22 : decode cX9_childrenAt 22 = .ok (.iload_n 2, 1) := by decide +kernel
theorem dX9_childrenAt_23 : decode cX9_childrenAt 23 = .ok (.iload_n 3, 1) := by decide +kernel
theorem dX9_childrenAt_24 : decode cX9_childrenAt 24 = .ok (.invokevirtual 135, 3) := by decide +kernel
theorem dX9_childrenAt_27 : decode cX9_childrenAt 27 = .ok (.iload_n 1, 1) := by decide +kernel
theorem dX9_childrenAt_28 : decode cX9_childrenAt 28 = .ok (.if_icmp .ne 6, 3) := by decide +kernel
theorem dX9_childrenAt_31 : decode cX9_childrenAt 31 = .ok (.iinc 4 1, 3) := by decide +kernel
theorem dX9_childrenAt_34 : decode cX9_childrenAt 34 = .ok (.iinc 5 1, 3) := by decide +kernel
theorem dX9_childrenAt_37 : decode cX9_childrenAt 37 = .ok (.goto (-31), 3) := by decide +kernel
theorem dX9_childrenAt_40 : decode cX9_childrenAt 40 = .ok (.iload 4, 2) := by decide +kernel
theorem dX9_childrenAt_42 : decode cX9_childrenAt 42 = .ok (.ireturn, 1) := by decide +kernel
theorem dX9_isOver_0 : decode cX9_isOver 0 = .ok (.aload_n 0, 1) := by decide +kernel
theorem dX9_isOver_1 : decode cX9_isOver 1 = .ok (.iload_n 1, 1) := by decide +kernel
theorem dX9_isOver_2 : decode cX9_isOver 2 = .ok (.iload_n 3, 1) := by decide +kernel
theorem dX9_isOver_3 : decode cX9_isOver 3 = .ok (.aload_n 0, 1) := by decide +kernel
theorem dX9_isOver_4 : decode cX9_isOver 4 = .ok (.getfield 51, 3) := by decide +kernel
theorem dX9_isOver_7 : decode cX9_isOver 7 = .ok (.invokevirtual 152, 3) := by decide +kernel
theorem dX9_isOver_10 : decode cX9_isOver 10 = .ok (.iload_n 2, 1) := by decide +kernel
theorem dX9_isOver_11 : decode cX9_isOver 11 = .ok (.if_icmp .le 5, 3) := by decide +kernel
theorem dX9_isOver_14 : decode cX9_isOver 14 = .ok (.iconst 1, 1) := by decide +kernel
theorem dX9_isOver_15 : decode cX9_isOver 15 = .ok (.ireturn, 1) := by decide +kernel
theorem dX9_isOver_16 : decode cX9_isOver 16 = .ok (.iconst 0, 1) := by decide +kernel
theorem dX9_isOver_17 : decode cX9_isOver 17 = .ok (.istore 4, 2) := by decide +kernel
theorem dX9_isOver_19 : decode cX9_isOver 19 = .ok (.iload 4, 2) := by decide +kernel
theorem dX9_isOver_21 : decode cX9_isOver 21 = .ok (.aload_n 0, 1) := by decide +kernel
theorem dX9_isOver_22 : decode cX9_isOver 22 = .ok (.getfield 78, 3) := by decide +kernel
theorem dX9_isOver_25 : decode cX9_isOver 25 = .ok (.if_icmp .ge 86, 3) := by decide +kernel
theorem dX9_isOver_28 : decode cX9_isOver 28 = .ok (.aload_n 0, 1) := by decide +kernel
theorem dX9_isOver_29 : decode cX9_isOver 29 = .ok (.getfield 17, 3) := by decide +kernel
theorem dX9_isOver_32 : decode cX9_isOver 32 = .ok (.iload 4, 2) := by decide +kernel
theorem dX9_isOver_34 : decode cX9_isOver 34 = .ok (.aaload, 1) := by decide +kernel
theorem dX9_isOver_35 : decode cX9_isOver 35 = .ok (.getfield 237, 3) := by decide +kernel
theorem dX9_isOver_38 : decode cX9_isOver 38 = .ok (.astore 5, 2) := by decide +kernel
theorem dX9_isOver_40 : decode cX9_isOver 40 = .ok (.aload 5, 2) := by decide +kernel
theorem dX9_isOver_42 : decode cX9_isOver 42 = .ok (.ifnull 63, 3) := by decide +kernel
theorem dX9_isOver_45 : decode cX9_isOver 45 = .ok (.aload 5, 2) := by decide +kernel
theorem dX9_isOver_47 : decode cX9_isOver 47 = .ok (.getfield 240, 3) := by decide +kernel
theorem dX9_isOver_50 : decode cX9_isOver 50 = .ok (.iload_n 1, 1) := by decide +kernel
theorem dX9_isOver_51 : decode cX9_isOver 51 = .ok (.if_icmp .ne 16, 3) := by decide +kernel
theorem dX9_isOver_54 : decode cX9_isOver 54 = .ok (.aload 5, 2) := by decide +kernel
theorem dX9_isOver_56 : decode cX9_isOver 56 = .ok (.getfield 243, 3) := by decide +kernel
theorem dX9_isOver_59 : decode cX9_isOver 59 = .ok (.iload_n 3, 1) := by decide +kernel
theorem dX9_isOver_60 : decode cX9_isOver 60 = .ok (.if_icmp .le 7, 3) := by decide +kernel
theorem dX9_isOver_63 : decode cX9_isOver 63 = .ok (.iconst 1, 1) := by decide +kernel
theorem dX9_isOver_64 : decode cX9_isOver 64 = .ok (.goto 4, 3) := by decide +kernel
theorem dX9_isOver_67 : decode cX9_isOver 67 = .ok (.iconst 0, 1) := by decide +kernel
theorem dX9_isOver_68 : decode cX9_isOver 68 = .ok (.istore 6, 2) := by decide +kernel
theorem dX9_isOver_70 : decode cX9_isOver 70 = .ok (.iload 6, 2) := by decide +kernel
theorem dX9_isOver_72 : decode cX9_isOver 72 = .ok (.ifCond .eq 23, 3) := by decide +kernel
theorem dX9_isOver_75 : decode cX9_isOver 75 = .ok (.aload_n 0, 1) := by decide +kernel
theorem dX9_isOver_76 : decode cX9_isOver 76 = .ok (.iload_n 1, 1) := by decide +kernel
theorem dX9_isOver_77 : decode cX9_isOver 77 = .ok (.aload 5, 2) := by decide +kernel
theorem dX9_isOver_79 : decode cX9_isOver 79 = .ok (.getfield 243, 3) := by decide +kernel
theorem dX9_isOver_82 : decode cX9_isOver 82 = .ok (.aload_n 0, 1) := by decide +kernel
theorem dX9_isOver_83 : decode cX9_isOver 83 = .ok (.getfield 51, 3) := by decide +kernel
theorem dX9_isOver_86 : decode cX9_isOver 86 = .ok (.invokevirtual 152, 3) := by decide +kernel
theorem dX9_isOver_89 : decode cX9_isOver 89 = .ok (.iload_n 2, 1) := by decide +kernel
theorem dX9_isOver_90 : decode cX9_isOver 90 = .ok (.if_icmp .le 5, 3) := by decide +kernel
theorem dX9_isOver_93 : decode cX9_isOver 93 = .ok (.iconst 1, 1) := by decide +kernel
theorem dX9_isOver_94 : decode cX9_isOver 94 = .ok (.ireturn, 1) := by decide +kernel
theorem dX9_isOver_95 : decode cX9_isOver 95 = .ok (.aload 5, 2) := by decide +kernel
theorem dX9_isOver_97 : decode cX9_isOver 97 = .ok (.getfield 127, 3) := by decide +kernel
theorem dX9_isOver_100 : decode cX9_isOver 100 = .ok (.astore 5, 2) := by decide +kernel
theorem dX9_isOver_102 : decode cX9_isOver 102 = .ok (.goto (-62), 3) := by decide +kernel
theorem dX9_isOver_105 : decode cX9_isOver 105 = .ok (.iinc 4 1, 3) := by decide +kernel
theorem dX9_isOver_108 : decode cX9_isOver 108 = .ok (.goto (-89), 3) := by decide +kernel
theorem dX9_isOver_111 : decode cX9_isOver 111 = .ok (.iconst 0, 1) := by decide +kernel
theorem dX9_isOver_112 : decode cX9_isOver 112 = .ok (.ireturn, 1) := by decide +kernel
theorem dX9_daysWith_0 : decode cX9_daysWith 0 = .ok (.bipush 7, 2) := by decide +kernel
theorem dX9_daysWith_2 : decode cX9_daysWith 2 = .ok (.iload_n 2, 1) := by decide +kernel
theorem dX9_daysWith_3 : decode cX9_daysWith 3 = .ok (.imul, 1) := by decide +kernel
theorem dX9_daysWith_4 : decode cX9_daysWith 4 = .ok (.istore 5, 2) := by decide +kernel
theorem dX9_daysWith_6 : decode cX9_daysWith 6 = .ok (.bipush 7, 2) := by decide +kernel
theorem dX9_daysWith_8 : decode cX9_daysWith 8 = .ok (.iload_n 3, 1) := by decide +kernel
theorem dX9_daysWith_9 : decode cX9_daysWith 9 = .ok (.imul, 1) := by decide +kernel
theorem dX9_daysWith_10 : decode cX9_daysWith 10 = .ok (.bipush 7, 2) := by decide +kernel
theorem dX9_daysWith_12 : decode cX9_daysWith 12 = .ok (.iadd, 1) := by decide +kernel
theorem dX9_daysWith_13 : decode cX9_daysWith 13 = .ok (.iconst 1, 1) := by decide +kernel
theorem dX9_daysWith_14 : decode cX9_daysWith 14 = .ok (.isub, 1) := by decide +kernel
theorem dX9_daysWith_15 : decode cX9_daysWith 15 = .ok (.iload 4, 2) := by decide +kernel
theorem dX9_daysWith_17 : decode cX9_daysWith 17 = .ok (.invokestatic 246, 3) := by decide +kernel
theorem dX9_daysWith_20 : decode cX9_daysWith 20 = .ok (.istore 6, 2) := by decide +kernel
theorem dX9_daysWith_22 : decode cX9_daysWith 22 = .ok (.iconst 0, 1) := by decide +kernel
theorem dX9_daysWith_23 : decode cX9_daysWith 23 = .ok (.istore 7, 2) := by decide +kernel
theorem dX9_daysWith_25 : decode cX9_daysWith 25 = .ok (.iconst 0, 1) := by decide +kernel
theorem dX9_daysWith_26 : decode cX9_daysWith 26 = .ok (.istore 8, 2) := by decide +kernel
theorem dX9_daysWith_28 : decode cX9_daysWith 28 = .ok (.iload 8, 2) := by decide +kernel
theorem dX9_daysWith_30 : decode cX9_daysWith 30 = .ok (.aload_n 0, 1) := by decide +kernel
theorem dX9_daysWith_31 : decode cX9_daysWith 31 = .ok (.getfield 78, 3) := by decide +kernel
theorem dX9_daysWith_34 : decode cX9_daysWith 34 = .ok (.if_icmp .ge 31, 3) := by decide +kernel
theorem dX9_daysWith_37 : decode cX9_daysWith 37 = .ok (.iload 7, 2) := by decide +kernel
theorem dX9_daysWith_39 : decode cX9_daysWith 39 = .ok (.aload_n 0, 1) := by decide +kernel
theorem dX9_daysWith_40 : decode cX9_daysWith 40 = .ok (.getfield 17, 3) := by decide +kernel
theorem dX9_daysWith_43 : decode cX9_daysWith 43 = .ok (.iload 8, 2) := by decide +kernel
theorem dX9_daysWith_45 : decode cX9_daysWith 45 = .ok (.aaload, 1) := by decide +kernel
theorem dX9_daysWith_46 : decode cX9_daysWith 46 = .ok (.iload_n 1, 1) := by decide +kernel
theorem dX9_daysWith_47 : decode cX9_daysWith 47 = .ok (.iload 5, 2) := by decide +kernel
theorem dX9_daysWith_49 : decode cX9_daysWith 49 = .ok (.iload 6, 2) := by decide +kernel
theorem dX9_daysWith_51 : decode cX9_daysWith 51 = .ok (.iload 4, 2) := by decide +kernel
theorem dX9_daysWith_53 : decode cX9_daysWith 53 = .ok (.invokevirtual 251, 3) := by decide +kernel
theorem dX9_daysWith_56 : decode cX9_daysWith 56 = .ok (.iadd, 1) := by decide +kernel
theorem dX9_daysWith_57 : decode cX9_daysWith 57 = .ok (.istore 7, 2) := by decide +kernel
theorem dX9_daysWith_59 : decode cX9_daysWith 59 = .ok (.iinc 8 1, 3) := by decide +kernel
theorem dX9_daysWith_62 : decode cX9_daysWith 62 = .ok (.goto (-34), 3) := by decide +kernel
theorem dX9_daysWith_65 : decode cX9_daysWith 65 = .ok (.iload 7, 2) := by decide +kernel
theorem dX9_daysWith_67 : decode cX9_daysWith 67 = .ok (.ireturn, 1) := by decide +kernel
theorem dX9_seenDays_0 : decode cX9_seenDays 0 = .ok (.iconst 0, 1) := by decide +kernel
theorem dX9_seenDays_1 : decode cX9_seenDays 1 = .ok (.istore 6, 2) := by decide +kernel
theorem dX9_seenDays_3 : decode cX9_seenDays 3 = .ok (.iconst (-1), 1) := by decide +kernel
theorem dX9_seenDays_4 : decode cX9_seenDays 4 = .ok (.istore 7, 2) := by decide +kernel
theorem dX9_seenDays_6 : decode cX9_seenDays 6 = .ok (.aload_n 2, 1) := by decide +kernel
theorem dX9_seenDays_7 : decode cX9_seenDays 7 = .ok (.astore 8, 2) := by decide +kernel
theorem dX9_seenDays_9 : decode cX9_seenDays 9 = .ok (.aload 8, 2) := by decide +kernel
theorem dX9_seenDays_11 : decode cX9_seenDays 11 = .ok (.ifnull 83, 3) := by decide +kernel
theorem dX9_seenDays_14 : decode cX9_seenDays 14 = .ok (.aload 8, 2) := by decide +kernel
theorem dX9_seenDays_16 : decode cX9_seenDays 16 = .ok (.getfield 143, 3) := by decide +kernel
theorem dX9_seenDays_19 : decode cX9_seenDays 19 = .ok (.bipush 7, 2) := by decide +kernel
theorem dX9_seenDays_21 : decode cX9_seenDays 21 = .ok (.idiv, 1) := by decide +kernel
theorem dX9_seenDays_22 : decode cX9_seenDays 22 = .ok (.istore 9, 2) := by decide +kernel
theorem dX9_seenDays_24 : decode cX9_seenDays 24 = .ok (.aload 8, 2) := by decide +kernel
theorem dX9_seenDays_26 : decode cX9_seenDays 26 = .ok (.getfield 143, 3) := by decide +kernel
theorem dX9_seenDays_29 : decode cX9_seenDays 29 = .ok (.iload 5, 2) := by decide +kernel
theorem dX9_seenDays_31 : decode cX9_seenDays 31 = .ok (.if_icmp .gt 18, 3) := by decide +kernel
theorem dX9_seenDays_34 : decode cX9_seenDays 34 = .ok (.iload 9, 2) := by decide +kernel
theorem dX9_seenDays_36 : decode cX9_seenDays 36 = .ok (.iload_n 3, 1) := by decide +kernel
theorem dX9_seenDays_37 : decode cX9_seenDays 37 = .ok (.iload 4, 2) := by decide +kernel
theorem dX9_seenDays_39 : decode cX9_seenDays 39 = .ok (.invokestatic 47, 3) := by decide +kernel
theorem dX9_seenDays_42 : decode cX9_seenDays 42 = .ok (.ifCond .eq 7, 3) := by decide +kernel
theorem dX9_seenDays_45 : decode cX9_seenDays 45 = .ok (.iconst 1, 1) := by decide +kernel
theorem dX9_seenDays_46 : decode cX9_seenDays 46 = .ok (.goto 4, 3) := by decide +kernel
theorem dX9_seenDays_49 : decode cX9_seenDays 49 = .ok (.iconst 0, 1) := by decide +kernel
theorem dX9_seenDays_50 : decode cX9_seenDays 50 = .ok (.istore 10, 2) := by decide +kernel
theorem dX9_seenDays_52 : decode cX9_seenDays 52 = .ok (.iload 10, 2) := by decide +kernel
theorem dX9_seenDays_54 : decode cX9_seenDays 54 = .ok (.ifCond .eq 30, 3) := by decide +kernel
theorem dX9_seenDays_57 : decode cX9_seenDays 57 = .ok (.iload 9, 2) := by decide +kernel
theorem dX9_seenDays_59 : decode cX9_seenDays 59 = .ok (.iload 7, 2) := by decide +kernel
theorem dX9_seenDays_61 : decode cX9_seenDays 61 = .ok (.if_icmp .eq 23, 3) := by decide +kernel
theorem dX9_seenDays_64 : decode cX9_seenDays 64 = .ok (.iload 6, 2) := by decide +kernel
theorem dX9_seenDays_66 : decode cX9_seenDays 66 = .ok (.aload_n 0, 1) := by decide +kernel
theorem dX9_seenDays_67 : decode cX9_seenDays 67 = .ok (.iload_n 1, 1) := by decide +kernel
theorem dX9_seenDays_68 : decode cX9_seenDays 68 = .ok (.iload 9, 2) := by decide +kernel
theorem dX9_seenDays_70 : decode cX9_seenDays 70 = .ok (.iload 9, 2) := by decide +kernel
theorem dX9_seenDays_72 : decode cX9_seenDays 72 = .ok (.iload 5, 2) := by decide +kernel
theorem dX9_seenDays_74 : decode cX9_seenDays 74 = .ok (.invokevirtual 163, 3) := by decide +kernel
theorem dX9_seenDays_77 : decode cX9_seenDays 77 = .ok (.iadd, 1) := by decide +kernel
theorem dX9_seenDays_78 : decode cX9_seenDays 78 = .ok (.istore 6, 2) := by decide +kernel
theorem dX9_seenDays_80 : decode cX9_seenDays 80 = .ok (.iload 9, 2) := by decide +kernel
theorem dX9_seenDays_82 : decode cX9_seenDays 82 = .ok (.istore 7, 2) := by decide +kernel
theorem dX9_seenDays_84 : decode cX9_seenDays 84 = .ok (.aload 8, 2) := by decide +kernel
theorem dX9_seenDays_86 : decode cX9_seenDays 86 = .ok (.getfield 254, 3) := by decide +kernel
theorem dX9_seenDays_89 : decode cX9_seenDays 89 = .ok (.astore 8, 2) := by decide +kernel
theorem dX9_seenDays_91 : decode cX9_seenDays 91 = .ok (.goto (-82), 3) := by decide +kernel
theorem dX9_seenDays_94 : decode cX9_seenDays 94 = .ok (.iload 6, 2) := by decide +kernel
theorem dX9_seenDays_96 : decode cX9_seenDays 96 = .ok (.ireturn, 1) := by decide +kernel
theorem dX9_childrenFitting_0 : decode cX9_childrenFitting 0 = .ok (.iconst 0, 1) := by decide +kernel
theorem dX9_childrenFitting_1 : decode cX9_childrenFitting 1 = .ok (.istore_n 2, 1) := by decide +kernel
theorem dX9_childrenFitting_2 : decode cX9_childrenFitting 2 = .ok (.iconst 0, 1) := by decide +kernel
theorem dX9_childrenFitting_3 : decode cX9_childrenFitting 3 = .ok (.istore_n 3, 1) := by decide +kernel
theorem dX9_childrenFitting_4 : decode cX9_childrenFitting 4 = .ok (.iload_n 3, 1) := by decide +kernel
theorem dX9_childrenFitting_5 : decode cX9_childrenFitting 5 = .ok (.aload_n 0, 1) := by decide +kernel
theorem dX9_childrenFitting_6 : decode cX9_childrenFitting 6 = .ok (.getfield 78, 3) := by decide +kernel
theorem dX9_childrenFitting_9 : decode cX9_childrenFitting 9 = .ok (.if_icmp .ge 42, 3) := by decide +kernel
theorem dX9_childrenFitting_12 : decode cX9_childrenFitting 12 = .ok (.aload_n 0, 1) := by decide +kernel
theorem dX9_childrenFitting_13 : decode cX9_childrenFitting 13 = .ok (.aload_n 0, 1) := by decide +kernel
theorem dX9_childrenFitting_14 : decode cX9_childrenFitting 14 = .ok (.getfield 17, 3) := by decide +kernel
theorem dX9_childrenFitting_17 : decode cX9_childrenFitting 17 = .ok (.iload_n 3, 1) := by decide +kernel
theorem dX9_childrenFitting_18 : decode cX9_childrenFitting 18 = .ok (.aaload, 1) := by decide +kernel
theorem dX9_childrenFitting_19 : decode cX9_childrenFitting 19 = .ok (.aload_n 0, 1) := by decide +kernel
theorem dX9_childrenFitting_20 : decode cX9_childrenFitting 20 = .ok (.getfield 51, 3) := by decide +kernel
theorem dX9_childrenFitting_23 : decode cX9_childrenFitting 23 = .ok (.invokevirtual 114, 3) := by decide +kernel
theorem dX9_childrenFitting_26 : decode cX9_childrenFitting 26 = .ok (.ifCond .ne 19, 3) := by decide +kernel
theorem dX9_childrenFitting_29 : decode cX9_childrenFitting 29 = .ok (.aload_n 1, 1) := by decide +kernel
theorem dX9_childrenFitting_30 : decode cX9_childrenFitting 30 = .ok (.aload_n 0, 1) := by decide +kernel
theorem dX9_childrenFitting_31 : decode cX9_childrenFitting 31 = .ok (.getfield 17, 3) := by decide +kernel
theorem dX9_childrenFitting_34 : decode cX9_childrenFitting 34 = .ok (.iload_n 3, 1) := by decide +kernel
theorem dX9_childrenFitting_35 : decode cX9_childrenFitting 35 = .ok (.aaload, 1) := by decide +kernel
theorem dX9_childrenFitting_36 : decode cX9_childrenFitting 36 = .ok (.invokevirtual 257, 3) := by decide +kernel
theorem dX9_childrenFitting_39 : decode cX9_childrenFitting 39 = .ok (.ifCond .ne 6, 3) := by decide +kernel
theorem dX9_childrenFitting_42 : decode cX9_childrenFitting 42 = .ok (.iinc 2 1, 3) := by decide +kernel
theorem dX9_childrenFitting_45 : decode cX9_childrenFitting 45 = .ok (.iinc 3 1, 3) := by decide +kernel
theorem dX9_childrenFitting_48 : decode cX9_childrenFitting 48 = .ok (.goto (-44), 3) := by decide +kernel
theorem dX9_childrenFitting_51 : decode cX9_childrenFitting 51 = .ok (.iload_n 2, 1) := by decide +kernel
theorem dX9_childrenFitting_52 : decode cX9_childrenFitting 52 = .ok (.ireturn, 1) := by decide +kernel
theorem dX9_setValues_0 : decode cX9_setValues 0 = .ok (.aload_n 0, 1) := by decide +kernel
theorem dX9_setValues_1 : decode cX9_setValues 1 = .ok (.getfield 42, 3) := by decide +kernel
theorem dX9_setValues_4 : decode cX9_setValues 4 = .ok (.getfield 261, 3) := by decide +kernel
theorem dX9_setValues_7 : decode cX9_setValues 7 = .ok (.iconst 0, 1) := by decide +kernel
theorem dX9_setValues_8 : decode cX9_setValues 8 = .ok (.aload_n 1, 1) := by decide +kernel
theorem dX9_setValues_9 : decode cX9_setValues 9 = .ok (.getfield 167, 3) := by decide +kernel
theorem dX9_setValues_12 : decode cX9_setValues 12 = .ok (.aload_n 2, 1) := by decide +kernel
theorem dX9_setValues_13 : decode cX9_setValues 13 = .ok (.getfield 265, 3) := by decide +kernel
theorem dX9_setValues_16 : decode cX9_setValues 16 = .ok (.invokevirtual 171, 3) := by decide +kernel
theorem dX9_setValues_19 : decode cX9_setValues 19 = .ok (.iastore, 1) := by decide +kernel
theorem dX9_setValues_20 : decode cX9_setValues 20 = .ok (.aload_n 0, 1) := by decide +kernel
theorem dX9_setValues_21 : decode cX9_setValues 21 = .ok (.getfield 42, 3) := by decide +kernel
theorem dX9_setValues_24 : decode cX9_setValues 24 = .ok (.getfield 261, 3) := by decide +kernel
theorem dX9_setValues_27 : decode cX9_setValues 27 = .ok (.iconst 1, 1) := by decide +kernel
theorem dX9_setValues_28 : decode cX9_setValues 28 = .ok (.aload_n 2, 1) := by decide +kernel
theorem dX9_setValues_29 : decode cX9_setValues 29 = .ok (.aload_n 1, 1) := by decide +kernel
theorem dX9_setValues_30 : decode cX9_setValues 30 = .ok (.invokevirtual 266, 3) := by decide +kernel
theorem dX9_setValues_33 : decode cX9_setValues 33 = .ok (.iastore, 1) := by decide +kernel
theorem dX9_setValues_34 : decode cX9_setValues 34 = .ok (.aload_n 0, 1) := by decide +kernel
theorem dX9_setValues_35 : decode cX9_setValues 35 = .ok (.getfield 42, 3) := by decide +kernel
theorem dX9_setValues_38 : decode cX9_setValues 38 = .ok (.getfield 261, 3) := by decide +kernel
theorem dX9_setValues_41 : decode cX9_setValues 41 = .ok (.iconst 2, 1) := by decide +kernel
theorem dX9_setValues_42 : decode cX9_setValues 42 = .ok (.aload_n 2, 1) := by decide +kernel
theorem dX9_setValues_43 : decode cX9_setValues 43 = .ok (.aload_n 1, 1) := by decide +kernel
theorem dX9_setValues_44 : decode cX9_setValues 44 = .ok (.invokevirtual 257, 3) := by decide +kernel
theorem dX9_setValues_47 : decode cX9_setValues 47 = .ok (.iastore, 1) := by decide +kernel
theorem dX9_setValues_48 : decode cX9_setValues 48 = .ok (.aload_n 0, 1) := by decide +kernel
theorem dX9_setValues_49 : decode cX9_setValues 49 = .ok (.getfield 42, 3) := by decide +kernel
theorem dX9_setValues_52 : decode cX9_setValues 52 = .ok (.getfield 261, 3) := by decide +kernel
theorem dX9_setValues_55 : decode cX9_setValues 55 = .ok (.iconst 3, 1) := by decide +kernel
theorem dX9_setValues_56 : decode cX9_setValues 56 = .ok (.iload_n 3, 1) := by decide +kernel
theorem dX9_setValues_57 : decode cX9_setValues 57 = .ok (.iastore, 1) := by decide +kernel
theorem dX9_setValues_58 : decode cX9_setValues 58 = .ok (.aload_n 0, 1) := by decide +kernel
theorem dX9_setValues_59 : decode cX9_setValues 59 = .ok (.getfield 42, 3) := by decide +kernel
theorem dX9_setValues_62 : decode cX9_setValues 62 = .ok (.getfield 261, 3) := by decide +kernel
theorem dX9_setValues_65 : decode cX9_setValues 65 = .ok (.iconst 4, 1) := by decide +kernel
theorem dX9_setValues_66 : decode cX9_setValues 66 = .ok (.aload_n 0, 1) := by decide +kernel
theorem dX9_setValues_67 : decode cX9_setValues 67 = .ok (.getfield 51, 3) := by decide +kernel
theorem dX9_setValues_70 : decode cX9_setValues 70 = .ok (.aload_n 1, 1) := by decide +kernel
theorem dX9_setValues_71 : decode cX9_setValues 71 = .ok (.getfield 108, 3) := by decide +kernel
theorem dX9_setValues_74 : decode cX9_setValues 74 = .ok (.isub, 1) := by decide +kernel
theorem dX9_setValues_75 : decode cX9_setValues 75 = .ok (.iastore, 1) := by decide +kernel
theorem dX9_setValues_76 : decode cX9_setValues 76 = .ok (.return_, 1) := by decide +kernel
