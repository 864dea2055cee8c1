theorem dX8_isWithin_0 : decode cX8_isWithin 0 = .ok (.iload_n 0, 1) := by decide +kernel
theorem dX8_isWithin_1 : decode cX8_isWithin 1 = .ok (.iload_n 1, 1) := by decide +kernel
theorem dX8_isWithin_2 : decode cX8_isWithin 2 = .ok (.if_icmp .lt 12, 3) := by decide +kernel
theorem dX8_isWithin_14 : decode cX8_isWithin 14 = .ok (.iconst 0, 1) := by decide +kernel
theorem dX8_isWithin_15 : decode cX8_isWithin 15 = .ok (.ireturn, 1) := by decide +kernel
theorem dX8_isWithin_5 : decode cX8_isWithin 5 = .ok (.iload_n 0, 1) := by decide +kernel
theorem dX8_isWithin_6 : decode cX8_isWithin 6 = .ok (.iload_n 2, 1) := by decide +kernel
theorem dX8_isWithin_7 : decode cX8_isWithin 7 = .ok (.if_icmp .gt 7, 3) := by decide +kernel
theorem dX8_isWithin_10 : decode cX8_isWithin 10 = .ok (.iconst 1, 1) := by decide +kernel
theorem dX8_isWithin_11 : decode cX8_isWithin 11 = .ok (.goto 4, 3) := by decide +kernel
theorem dX8_isNear_0 : decode cX8_isNear 0 = .ok (.iload_n 0, 1) := by decide +kernel
theorem dX8_isNear_1 : decode cX8_isNear 1 = .ok (.iload_n 1, 1) := by decide +kernel
theorem dX8_isNear_2 : decode cX8_isNear 2 = .ok (.ineg, 1) := by decide +kernel
theorem dX8_isNear_3 : decode cX8_isNear 3 = .ok (.iload_n 1, 1) := by decide +kernel
theorem dX8_isNear_4 : decode cX8_isNear 4 = .ok (.invokestatic 79, 3) := by decide +kernel
theorem dX8_isNear_7 : decode cX8_isNear 7 = .ok (.ireturn, 1) := by decide +kernel
theorem dX8_isSide_0 : decode cX8_isSide 0 = .ok (.iload_n 0, 1) := by decide +kernel
theorem dX8_isSide_1 : decode cX8_isSide 1 = .ok (.iconst 1, 1) := by decide +kernel
theorem dX8_isSide_2 : decode cX8_isSide 2 = .ok (.bipush 64, 2) := by decide +kernel
theorem dX8_isSide_4 : decode cX8_isSide 4 = .ok (.invokestatic 79, 3) := by decide +kernel
theorem dX8_isSide_7 : decode cX8_isSide 7 = .ok (.ireturn, 1) := by decide +kernel
theorem dX8_isRule_0 : decode cX8_isRule 0 = .ok (.iload_n 0, 1) := by decide +kernel
theorem dX8_isRule_1 : decode cX8_isRule 1 = .ok (.ifCond .eq 8, 3) := by decide +kernel
theorem dX8_isRule_9 : decode cX8_isRule 9 = .ok (.iconst 1, 1) := by decide +kernel
theorem dX8_isRule_10 : decode cX8_isRule 10 = .ok (.goto 4, 3) := by decide +kernel
theorem dX8_isRule_14 : decode cX8_isRule 14 = .ok (.ireturn, 1) := by decide +kernel
theorem dX8_isRule_4 : decode cX8_isRule 4 = .ok (.iload_n 0, 1) := by decide +kernel
theorem dX8_isRule_5 : decode cX8_isRule 5 = .ok (.iconst 1, 1) := by decide +kernel
theorem dX8_isRule_6 : decode cX8_isRule 6 = .ok (.if_icmp .ne 7, 3) := by decide +kernel
theorem dX8_isRule_13 : decode cX8_isRule 13 = .ok (.iconst 0, 1) := by decide +kernel
theorem dX8_shareOfFull_0 : decode cX8_shareOfFull 0 = .ok (.iconst 2, 1) := by decide +kernel
theorem dX8_shareOfFull_1 : decode cX8_shareOfFull 1 = .ok (.iload_n 0, 1) := by decide +kernel
theorem dX8_shareOfFull_2 : decode cX8_shareOfFull 2 = .ok (.imul, 1) := by decide +kernel
theorem dX8_shareOfFull_3 : decode cX8_shareOfFull 3 = .ok (.sipush 255, 3) := by decide +kernel
theorem dX8_shareOfFull_6 : decode cX8_shareOfFull 6 = .ok (.iadd, 1) := by decide +kernel
theorem dX8_shareOfFull_7 : decode cX8_shareOfFull 7 = .ok (.sipush 510, 3) := by decide +kernel
theorem dX8_shareOfFull_10 : decode cX8_shareOfFull 10 = .ok (.idiv, 1) := by decide +kernel
theorem dX8_shareOfFull_11 : decode cX8_shareOfFull 11 = .ok (.ireturn, 1) := by decide +kernel
theorem dX8_channel_0 : decode cX8_channel 0 = .ok (.iload_n 0, 1) := by decide +kernel
theorem dX8_channel_1 : decode cX8_channel 1 = .ok (.iload_n 1, 1) := by decide +kernel
theorem dX8_channel_2 : decode cX8_channel 2 = .ok (.iushr, 1) := by decide +kernel
theorem dX8_channel_3 : decode cX8_channel 3 = .ok (.sipush 255, 3) := by decide +kernel
theorem dX8_channel_6 : decode cX8_channel 6 = .ok (.iand, 1) := by decide +kernel
theorem dX8_channel_7 : decode cX8_channel 7 = .ok (.ireturn, 1) := by decide +kernel
theorem dX8_inkOf_0 : decode cX8_inkOf 0 = .ok (.iload_n 0, 1) := by decide +kernel
theorem dX8_inkOf_1 : decode cX8_inkOf 1 = .ok (.bipush 24, 2) := by decide +kernel
theorem dX8_inkOf_3 : decode cX8_inkOf 3 = .ok (.invokestatic 215, 3) := by decide +kernel
theorem dX8_inkOf_6 : decode cX8_inkOf 6 = .ok (.istore_n 1, 1) := by decide +kernel
theorem dX8_inkOf_7 : decode cX8_inkOf 7 = .ok (.iload_n 1, 1) := by decide +kernel
theorem dX8_inkOf_8 : decode cX8_inkOf 8 = .ok (.istore_n 2, 1) := by decide +kernel
theorem dX8_inkOf_9 : decode cX8_inkOf 9 = .ok (.bipush 16, 2) := by decide +kernel
theorem dX8_inkOf_11 : decode cX8_inkOf 11 = .ok (.istore_n 3, 1) := by decide +kernel
theorem dX8_inkOf_12 : decode cX8_inkOf 12 = .ok (.iload_n 3, 1) := by decide +kernel
theorem dX8_inkOf_13 : decode cX8_inkOf 13 = .ok (.ifCond .lt 25, 3) := by decide +kernel
theorem dX8_inkOf_16 : decode cX8_inkOf 16 = .ok (.iload_n 2, 1) := by decide +kernel
theorem dX8_inkOf_17 : decode cX8_inkOf 17 = .ok (.bipush 8, 2) := by decide +kernel
theorem dX8_inkOf_19 : decode cX8_inkOf 19 = .ok (.ishl, 1) := by decide +kernel
theorem dX8_inkOf_20 : decode cX8_inkOf 20 = .ok (.iload_n 0, 1) := by decide +kernel
theorem dX8_inkOf_21 : decode cX8_inkOf 21 = .ok (.iload_n 3, 1) := by decide +kernel
theorem dX8_inkOf_22 : decode cX8_inkOf 22 = .ok (.invokestatic 215, 3) := by decide +kernel
theorem dX8_inkOf_25 : decode cX8_inkOf 25 = .ok (.iload_n 1, 1) := by decide +kernel
theorem dX8_inkOf_26 : decode cX8_inkOf 26 = .ok (.imul, 1) := by decide +kernel
theorem dX8_inkOf_27 : decode cX8_inkOf 27 = .ok (.invokestatic 218, 3) := by decide +kernel
theorem dX8_inkOf_30 : decode cX8_inkOf 30 = .ok (.ior, 1) := by decide +kernel
theorem dX8_inkOf_31 : decode cX8_inkOf 31 = .ok (.istore_n 2, 1) := by decide +kernel
theorem dX8_inkOf_32 : decode cX8_inkOf 32 = .ok (.iinc 3 (-8), 3) := by decide +kernel
theorem dX8_inkOf_35 : decode cX8_inkOf 35 = .ok (.goto (-23), 3) := by decide +kernel
theorem dX8_inkOf_38 : decode cX8_inkOf 38 = .ok (.iload_n 2, 1) := by decide +kernel
theorem dX8_inkOf_39 : decode cX8_inkOf 39 = .ok (.ireturn, 1) := by decide +kernel
theorem dX5_has_0 : decode cX5_has 0 = .ok (.iload_n 1, 1) := by decide +kernel
theorem dX5_has_1 : decode cX5_has 1 = .ok (.ifCond .lt 27, 3) := by decide +kernel
theorem dX5_has_28 : decode cX5_has 28 = .ok (.iconst 0, 1) := by decide +kernel
theorem dX5_has_29 : decode cX5_has 29 = .ok (.ireturn, 1) := by decide +kernel
theorem dX5_has_4 : decode cX5_has 4 = .ok (.iload_n 1, 1) := by decide +kernel
theorem dX5_has_5 : decode cX5_has 5 = .ok (.aload_n 0, 1) := by decide +kernel
theorem dX5_has_6 : decode cX5_has 6 = .ok (.getfield 15, 3) := by decide +kernel
theorem dX5_has_9 : decode cX5_has 9 = .ok (.if_icmp .ge 19, 3) := by decide +kernel
theorem dX5_has_12 : decode cX5_has 12 = .ok (.iload_n 2, 1) := by decide +kernel
theorem dX5_has_13 : decode cX5_has 13 = .ok (.ifCond .lt 15, 3) := by decide +kernel
theorem dX5_has_16 : decode cX5_has 16 = .ok (.iload_n 2, 1) := by decide +kernel
theorem dX5_has_17 : decode cX5_has 17 = .ok (.aload_n 0, 1) := by decide +kernel
theorem dX5_has_18 : decode cX5_has 18 = .ok (.getfield 19, 3) := by decide +kernel
theorem dX5_has_21 : decode cX5_has 21 = .ok (.if_icmp .ge 7, 3) := by decide +kernel
theorem dX5_has_24 : decode cX5_has 24 = .ok (.iconst 1, 1) := by decide +kernel
theorem dX5_has_25 : decode cX5_has 25 = .ok (.goto 4, 3) := by decide +kernel
theorem dX5_at_0 : decode cX5_at 0 = .ok (.aload_n 0, 1) := by decide +kernel
theorem dX5_at_1 : decode cX5_at 1 = .ok (.iload_n 1, 1) := by decide +kernel
theorem dX5_at_2 : decode cX5_at 2 = .ok (.iload_n 2, 1) := by decide +kernel
theorem dX5_at_3 : decode cX5_at 3 = .ok (.invokevirtual 34, 3) := by decide +kernel
theorem dX5_at_6 : decode cX5_at 6 = .ok (.ifCond .eq 17, 3) := by decide +kernel
theorem dX5_at_23 : decode cX5_at 23 = .ok (.iconst 0, 1) := by decide +kernel
theorem dX5_at_24 : decode cX5_at 24 = .ok (.ireturn, 1) := by decide +kernel
theorem dX5_at_9 : decode cX5_at 9 = .ok (.aload_n 0, 1) := by decide +kernel
theorem dX5_at_10 : decode cX5_at 10 = .ok (.getfield 9, 3) := by decide +kernel
theorem dX5_at_13 : decode cX5_at 13 = .ok (.iload_n 2, 1) := by decide +kernel
theorem dX5_at_14 : decode cX5_at 14 = .ok (.bipush 64, 2) := by decide +kernel
theorem dX5_at_16 : decode cX5_at 16 = .ok (.imul, 1) := by decide +kernel
theorem dX5_at_17 : decode cX5_at 17 = .ok (.iload_n 1, 1) := by decide +kernel
theorem dX5_at_18 : decode cX5_at 18 = .ok (.iadd, 1) := by decide +kernel
theorem dX5_at_19 : decode cX5_at 19 = .ok (.iaload, 1) := by decide +kernel
theorem dX5_at_20 : decode cX5_at 20 = .ok (.goto 4, 3) := by decide +kernel
theorem dX5_put_0 : decode cX5_put 0 = .ok (.aload_n 0, 1) := by decide +kernel
theorem dX5_put_1 : decode cX5_put 1 = .ok (.iload_n 1, 1) := by decide +kernel
theorem dX5_put_2 : decode cX5_put 2 = .ok (.iload_n 2, 1) := by decide +kernel
theorem dX5_put_3 : decode cX5_put 3 = .ok (.invokevirtual 34, 3) := by decide +kernel
theorem dX5_put_6 : decode cX5_put 6 = .ok (.ifCond .eq 15, 3) := by decide +kernel
theorem dX5_put_21 : decode cX5_put 21 = .ok (.return_, 1) := by decide +kernel
theorem dX5_put_9 : decode cX5_put 9 = .ok (.aload_n 0, 1) := by decide +kernel
theorem dX5_put_10 : decode cX5_put 10 = .ok (.getfield 9, 3) := by decide +kernel
theorem dX5_put_13 : decode cX5_put 13 = .ok (.iload_n 2, 1) := by decide +kernel
theorem dX5_put_14 : decode cX5_put 14 = .ok (.bipush 64, 2) := by decide +kernel
theorem dX5_put_16 : decode cX5_put 16 = .ok (.imul, 1) := by decide +kernel
theorem dX5_put_17 : decode cX5_put 17 = .ok (.iload_n 1, 1) := by decide +kernel
theorem dX5_put_18 : decode cX5_put 18 = .ok (.iadd, 1) := by decide +kernel
theorem dX5_put_19 : decode cX5_put 19 = .ok (.iload_n 3, 1) := by decide +kernel
theorem dX5_put_20 : decode cX5_put 20 = .ok (.iastore, 1) := by decide +kernel
theorem dJ7_fill_53178_0 : decode cJ7_fill_53178 0 = .ok (.iconst 0, 1) := by decide +kernel
theorem dJ7_fill_53178_1 : decode cJ7_fill_53178 1 = .ok (.istore_n 2, 1) := by decide +kernel
theorem dJ7_fill_53178_2 : decode cJ7_fill_53178 2 = .ok (.aload_n 0, 1) := by decide +kernel
theorem dJ7_fill_53178_3 : decode cJ7_fill_53178 3 = .ok (.arraylength, 1) := by decide +kernel
theorem dJ7_fill_53178_4 : decode cJ7_fill_53178 4 = .ok (.istore_n 3, 1) := by decide +kernel
theorem dJ7_fill_53178_5 : decode cJ7_fill_53178 5 = .ok (.iload_n 2, 1) := by decide +kernel
theorem dJ7_fill_53178_6 : decode cJ7_fill_53178 6 = .ok (.iload_n 3, 1) := by decide +kernel
theorem dJ7_fill_53178_7 : decode cJ7_fill_53178 7 = .ok (.if_icmp .ge 13, 3) := by decide +kernel
theorem dJ7_fill_53178_20 : decode cJ7_fill_53178 20 = .ok (.return_, 1) := by decide +kernel
theorem dJ7_fill_53178_10 : decode cJ7_fill_53178 10 = .ok (.aload_n 0, 1) := by decide +kernel
theorem dJ7_fill_53178_11 : decode cJ7_fill_53178 11 = .ok (.iload_n 2, 1) := by decide +kernel
theorem dJ7_fill_53178_12 : decode cJ7_fill_53178 12 = .ok (.iload_n 1, 1) := by decide +kernel
theorem dJ7_fill_53178_13 : decode cJ7_fill_53178 13 = .ok (.iastore, 1) := by decide +kernel
theorem dJ7_fill_53178_14 : decode cJ7_fill_53178 14 = .ok (.iinc 2 1, 3) := by decide +kernel
theorem dJ7_fill_53178_17 : decode cJ7_fill_53178 17 = .ok (.goto (-12), 3) := by decide +kernel
theorem dX5_begin_0 : decode cX5_begin 0 = .ok (.aload_n 0, 1) := by decide +kernel
theorem dX5_begin_1 : decode cX5_begin 1 = .ok (.iload_n 1, 1) := by decide +kernel
theorem dX5_begin_2 : decode cX5_begin 2 = .ok (.putfield 15, 3) := by decide +kernel
theorem dX5_begin_5 : decode cX5_begin 5 = .ok (.aload_n 0, 1) := by decide +kernel
theorem dX5_begin_6 : decode cX5_begin 6 = .ok (.iload_n 2, 1) := by decide +kernel
theorem dX5_begin_7 : decode cX5_begin 7 = .ok (.putfield 19, 3) := by decide +kernel
theorem dX5_begin_10 : decode cX5_begin 10 = .ok (.aload_n 0, 1) := by decide +kernel
theorem dX5_begin_11 : decode cX5_begin 11 = .ok (.getfield 9, 3) := by decide +kernel
theorem dX5_begin_14 : decode cX5_begin 14 = .ok (.iconst 0, 1) := by decide +kernel
theorem dX5_begin_15 : decode cX5_begin 15 = .ok (.invokestatic 22, 3) := by decide +kernel
theorem dX5_begin_18 : decode cX5_begin 18 = .ok (.return_, 1) := by decide +kernel
theorem dX0_holds_0 : decode cX0_holds 0 = .ok (.iload_n 1, 1) := by decide +kernel
theorem dX0_holds_1 : decode cX0_holds 1 = .ok (.aload_n 0, 1) := by decide +kernel
theorem dX0_holds_2 : decode cX0_holds 2 = .ok (.getfield 9, 3) := by decide +kernel
theorem dX0_holds_5 : decode cX0_holds 5 = .ok (.if_icmp .lt 31, 3) := by decide +kernel
theorem dX0_holds_36 : decode cX0_holds 36 = .ok (.iconst 0, 1) := by decide +kernel
theorem dX0_holds_37 : decode cX0_holds 37 = .ok (.ireturn, 1) := by decide +kernel
theorem dX0_holds_8 : decode cX0_holds 8 = .ok (.iload_n 1, 1) := by decide +kernel
theorem dX0_holds_9 : decode cX0_holds 9 = .ok (.aload_n 0, 1) := by decide +kernel
theorem dX0_holds_10 : decode cX0_holds 10 = .ok (.getfield 18, 3) := by decide +kernel
theorem dX0_holds_13 : decode cX0_holds 13 = .ok (.if_icmp .gt 23, 3) := by decide +kernel
theorem dX0_holds_16 : decode cX0_holds 16 = .ok (.iload_n 2, 1) := by decide +kernel
theorem dX0_holds_17 : decode cX0_holds 17 = .ok (.aload_n 0, 1) := by decide +kernel
theorem dX0_holds_18 : decode cX0_holds 18 = .ok (.getfield 15, 3) := by decide +kernel
theorem dX0_holds_21 : decode cX0_holds 21 = .ok (.if_icmp .lt 15, 3) := by decide +kernel
theorem dX0_holds_24 : decode cX0_holds 24 = .ok (.iload_n 2, 1) := by decide +kernel
theorem dX0_holds_25 : decode cX0_holds 25 = .ok (.aload_n 0, 1) := by decide +kernel
theorem dX0_holds_26 : decode cX0_holds 26 = .ok (.getfield 21, 3) := by decide +kernel
theorem dX0_holds_29 : decode cX0_holds 29 = .ok (.if_icmp .gt 7, 3) := by decide +kernel
theorem dX0_holds_32 : decode cX0_holds 32 = .ok (.iconst 1, 1) := by decide +kernel
theorem dX0_holds_33 : decode cX0_holds 33 = .ok (.goto 4, 3) := by decide +kernel
theorem dX0_bound_0 : decode cX0_bound 0 = .ok (.aload_n 0, 1) := by decide +kernel
theorem dX0_bound_1 : decode cX0_bound 1 = .ok (.iload_n 1, 1) := by decide +kernel
theorem dX0_bound_2 : decode cX0_bound 2 = .ok (.putfield 9, 3) := by decide +kernel
theorem dX0_bound_5 : decode cX0_bound 5 = .ok (.aload_n 0, 1) := by decide +kernel
theorem dX0_bound_6 : decode cX0_bound 6 = .ok (.iload_n 2, 1) := by decide +kernel
theorem dX0_bound_7 : decode cX0_bound 7 = .ok (.putfield 15, 3) := by decide +kernel
theorem dX0_bound_10 : decode cX0_bound 10 = .ok (.aload_n 0, 1) := by decide +kernel
theorem dX0_bound_11 : decode cX0_bound 11 = .ok (.iload_n 3, 1) := by decide +kernel
theorem dX0_bound_12 : decode cX0_bound 12 = .ok (.putfield 18, 3) := by decide +kernel
theorem dX0_bound_15 : decode cX0_bound 15 = .ok (.aload_n 0, 1) := by decide +kernel
theorem dX0_bound_16 : decode cX0_bound 16 = .ok (.iload 4, 2) := by decide +kernel
theorem dX0_bound_18 : decode cX0_bound 18 = .ok (.putfield 21, 3) := by decide +kernel
theorem dX0_bound_21 : decode cX0_bound 21 = .ok (.return_, 1) := by decide +kernel
theorem dX1_weightOfSource_0 : decode cX1_weightOfSource 0 = .ok (.aload_n 0, 1) := by decide +kernel
theorem dX1_weightOfSource_1 : decode cX1_weightOfSource 1 = .ok (.getfield 22, 3) := by decide +kernel
theorem dX1_weightOfSource_4 : decode cX1_weightOfSource 4 = .ok (.tableswitch 76 1 12 #[64, 76, 64, 70, 68, 76, 70, 76, 68, 70, 70, 64], 64) := by decide +kernel
theorem dX1_weightOfSource_80 : decode cX1_weightOfSource 80 = .ok (.iconst 0, 1) := by decide +kernel
theorem dX1_weightOfSource_81 : decode cX1_weightOfSource 81 = .ok (.ireturn, 1) := by decide +kernel
theorem dX1_weightOfSource_68 : decode cX1_weightOfSource 68 = .ok (.sipush 255, 3) := by decide +kernel
theorem dX1_weightOfSource_71 : decode cX1_weightOfSource 71 = .ok (.ireturn, 1) := by decide +kernel
theorem dX1_weightOfSource_74 : decode cX1_weightOfSource 74 = .ok (.sipush 255, 3) := by decide +kernel
theorem dX1_weightOfSource_77 : decode cX1_weightOfSource 77 = .ok (.iload_n 1, 1) := by decide +kernel
theorem dX1_weightOfSource_78 : decode cX1_weightOfSource 78 = .ok (.isub, 1) := by decide +kernel
theorem dX1_weightOfSource_79 : decode cX1_weightOfSource 79 = .ok (.ireturn, 1) := by decide +kernel
theorem dX1_weightOfSource_72 : decode cX1_weightOfSource 72 = .ok (.iload_n 1, 1) := by decide +kernel
theorem dX1_weightOfSource_73 : decode cX1_weightOfSource 73 = .ok (.ireturn, 1) := by decide +kernel
theorem dX1_weightOfThere_0 : decode cX1_weightOfThere 0 = .ok (.aload_n 0, 1) := by decide +kernel
theorem dX1_weightOfThere_1 : decode cX1_weightOfThere 1 = .ok (.getfield 22, 3) := by decide +kernel
theorem dX1_weightOfThere_4 : decode cX1_weightOfThere 4 = .ok (.tableswitch 72 2 12 #[60, 66, 60, 72, 64, 72, 66, 66, 64, 66, 60], 60) := by decide +kernel
theorem dX1_weightOfThere_76 : decode cX1_weightOfThere 76 = .ok (.iconst 0, 1) := by decide +kernel
theorem dX1_weightOfThere_77 : decode cX1_weightOfThere 77 = .ok (.ireturn, 1) := by decide +kernel
theorem dX1_weightOfThere_64 : decode cX1_weightOfThere 64 = .ok (.sipush 255, 3) := by decide +kernel
theorem dX1_weightOfThere_67 : decode cX1_weightOfThere 67 = .ok (.ireturn, 1) := by decide +kernel
theorem dX1_weightOfThere_70 : decode cX1_weightOfThere 70 = .ok (.sipush 255, 3) := by decide +kernel
theorem dX1_weightOfThere_73 : decode cX1_weightOfThere 73 = .ok (.iload_n 1, 1) := by decide +kernel
theorem dX1_weightOfThere_74 : decode cX1_weightOfThere 74 = .ok (.isub, 1) := by decide +kernel
theorem dX1_weightOfThere_75 : decode cX1_weightOfThere 75 = .ok (.ireturn, 1) := by decide +kernel
theorem dX1_weightOfThere_68 : decode cX1_weightOfThere 68 = .ok (.iload_n 1, 1) := by decide +kernel
theorem dX1_weightOfThere_69 : decode cX1_weightOfThere 69 = .ok (.ireturn, 1) := by decide +kernel
theorem dX1_measureOf_0 : decode cX1_measureOf 0 = .ok (.iconst 2, 1) := by decide +kernel
theorem dX1_measureOf_1 : decode cX1_measureOf 1 = .ok (.aload_n 0, 1) := by decide +kernel
theorem dX1_measureOf_2 : decode cX1_measureOf 2 = .ok (.getfield 25, 3) := by decide +kernel
theorem dX1_measureOf_5 : decode cX1_measureOf 5 = .ok (.imul, 1) := by decide +kernel
theorem dX1_measureOf_6 : decode cX1_measureOf 6 = .ok (.iload_n 1, 1) := by decide +kernel
theorem dX1_measureOf_7 : decode cX1_measureOf 7 = .ok (.imul, 1) := by decide +kernel
theorem dX1_measureOf_8 : decode cX1_measureOf 8 = .ok (.bipush 16, 2) := by decide +kernel
theorem dX1_measureOf_10 : decode cX1_measureOf 10 = .ok (.iadd, 1) := by decide +kernel
theorem dX1_measureOf_11 : decode cX1_measureOf 11 = .ok (.bipush 32, 2) := by decide +kernel
theorem dX1_measureOf_13 : decode cX1_measureOf 13 = .ok (.idiv, 1) := by decide +kernel
theorem dX1_measureOf_14 : decode cX1_measureOf 14 = .ok (.ireturn, 1) := by decide +kernel
theorem dX1_laid_0 : decode cX1_laid 0 = .ok (.aload_n 0, 1) := by decide +kernel
theorem dX1_laid_1 : decode cX1_laid 1 = .ok (.iload_n 2, 1) := by decide +kernel
theorem dX1_laid_2 : decode cX1_laid 2 = .ok (.bipush 24, 2) := by decide +kernel
theorem dX1_laid_4 : decode cX1_laid 4 = .ok (.invokestatic 49, 3) := by decide +kernel
theorem dX1_laid_7 : decode cX1_laid 7 = .ok (.invokevirtual 52, 3) := by decide +kernel
theorem dX1_laid_10 : decode cX1_laid 10 = .ok (.istore 4, 2) := by decide +kernel
theorem dX1_laid_12 : decode cX1_laid 12 = .ok (.aload_n 0, 1) := by decide +kernel
theorem dX1_laid_13 : decode cX1_laid 13 = .ok (.iload_n 1, 1) := by decide +kernel
theorem dX1_laid_14 : decode cX1_laid 14 = .ok (.bipush 24, 2) := by decide +kernel
theorem dX1_laid_16 : decode cX1_laid 16 = .ok (.invokestatic 49, 3) := by decide +kernel
theorem dX1_laid_19 : decode cX1_laid 19 = .ok (.invokevirtual 56, 3) := by decide +kernel
theorem dX1_laid_22 : decode cX1_laid 22 = .ok (.istore 5, 2) := by decide +kernel
theorem dX1_laid_24 : decode cX1_laid 24 = .ok (.iconst 0, 1) := by decide +kernel
theorem dX1_laid_25 : decode cX1_laid 25 = .ok (.istore 6, 2) := by decide +kernel
theorem dX1_laid_27 : decode cX1_laid 27 = .ok (.bipush 24, 2) := by decide +kernel
theorem dX1_laid_29 : decode cX1_laid 29 = .ok (.istore 7, 2) := by decide +kernel
theorem dX1_laid_31 : decode cX1_laid 31 = .ok (.iload 7, 2) := by decide +kernel
theorem dX1_laid_33 : decode cX1_laid 33 = .ok (.ifCond .lt 67, 3) := by decide +kernel
theorem dX1_laid_36 : decode cX1_laid 36 = .ok (.iload_n 2, 1) := by decide +kernel
theorem dX1_laid_37 : decode cX1_laid 37 = .ok (.iload 7, 2) := by decide +kernel
theorem dX1_laid_39 : decode cX1_laid 39 = .ok (.invokestatic 49, 3) := by decide +kernel
theorem dX1_laid_42 : decode cX1_laid 42 = .ok (.istore 8, 2) := by decide +kernel
theorem dX1_laid_44 : decode cX1_laid 44 = .ok (.sipush 255, 3) := by decide +kernel
theorem dX1_laid_47 : decode cX1_laid 47 = .ok (.iload_n 1, 1) := by decide +kernel
theorem dX1_laid_48 : decode cX1_laid 48 = .ok (.iload 7, 2) := by decide +kernel
theorem dX1_laid_50 : decode cX1_laid 50 = .ok (.invokestatic 49, 3) := by decide +kernel
theorem dX1_laid_53 : decode cX1_laid 53 = .ok (.iload 4, 2) := by decide +kernel
theorem dX1_laid_55 : decode cX1_laid 55 = .ok (.imul, 1) := by decide +kernel
theorem dX1_laid_56 : decode cX1_laid 56 = .ok (.iload 8, 2) := by decide +kernel
theorem dX1_laid_58 : decode cX1_laid 58 = .ok (.iload 5, 2) := by decide +kernel
theorem dX1_laid_60 : decode cX1_laid 60 = .ok (.imul, 1) := by decide +kernel
theorem dX1_laid_61 : decode cX1_laid 61 = .ok (.iadd, 1) := by decide +kernel
theorem dX1_laid_62 : decode cX1_laid 62 = .ok (.invokestatic 59, 3) := by decide +kernel
theorem dX1_laid_65 : decode cX1_laid 65 = .ok (.invokestatic 62, 3) := by decide +kernel
theorem dX1_laid_68 : decode cX1_laid 68 = .ok (.istore 9, 2) := by decide +kernel
theorem dX1_laid_70 : decode cX1_laid 70 = .ok (.iload 6, 2) := by decide +kernel
theorem dX1_laid_72 : decode cX1_laid 72 = .ok (.bipush 8, 2) := by decide +kernel
theorem dX1_laid_74 : decode cX1_laid 74 = .ok (.ishl, 1) := by decide +kernel
theorem dX1_laid_75 : decode cX1_laid 75 = .ok (.iload 9, 2) := by decide +kernel
theorem dX1_laid_77 : decode cX1_laid 77 = .ok (.iload_n 3, 1) := by decide +kernel
theorem dX1_laid_78 : decode cX1_laid 78 = .ok (.imul, 1) := by decide +kernel
theorem dX1_laid_79 : decode cX1_laid 79 = .ok (.iload 8, 2) := by decide +kernel
theorem dX1_laid_81 : decode cX1_laid 81 = .ok (.sipush 255, 3) := by decide +kernel
theorem dX1_laid_84 : decode cX1_laid 84 = .ok (.iload_n 3, 1) := by decide +kernel
theorem dX1_laid_85 : decode cX1_laid 85 = .ok (.isub, 1) := by decide +kernel
theorem dX1_laid_86 : decode cX1_laid 86 = .ok (.imul, 1) := by decide +kernel
theorem dX1_laid_87 : decode cX1_laid 87 = .ok (.iadd, 1) := by decide +kernel
theorem dX1_laid_88 : decode cX1_laid 88 = .ok (.invokestatic 59, 3) := by decide +kernel
theorem dX1_laid_91 : decode cX1_laid 91 = .ok (.ior, 1) := by decide +kernel
theorem dX1_laid_92 : decode cX1_laid 92 = .ok (.istore 6, 2) := by decide +kernel
theorem dX1_laid_94 : decode cX1_laid 94 = .ok (.iinc 7 (-8), 3) := by decide +kernel
theorem dX1_laid_97 : decode cX1_laid 97 = .ok (.goto (-66), 3) := by decide +kernel
theorem dX1_laid_100 : decode cX1_laid 100 = .ok (.iload 6, 2) := by decide +kernel
theorem dX1_laid_102 : decode cX1_laid 102 = .ok (.ireturn, 1) := by decide +kernel
theorem dX1_lay_0 : decode cX1_lay 0 = .ok (.aload_n 1, 1) := by decide +kernel
theorem dX1_lay_1 : decode cX1_lay 1 = .ok (.iload_n 2, 1) := by decide +kernel
theorem dX1_lay_2 : decode cX1_lay 2 = .ok (.iload_n 3, 1) := by decide +kernel
theorem dX1_lay_3 : decode cX1_lay 3 = .ok (.invokevirtual 28, 3) := by decide +kernel
theorem dX1_lay_6 : decode cX1_lay 6 = .ok (.ifCond .eq 15, 3) := by decide +kernel
theorem dX1_lay_21 : decode cX1_lay 21 = .ok (.iconst 0, 1) := by decide +kernel
theorem dX1_lay_22 : decode cX1_lay 22 = .ok (.ireturn, 1) := by decide +kernel
theorem dX1_lay_9 : decode cX1_lay 9 = .ok (.aload_n 0, 1) := by decide +kernel
theorem dX1_lay_10 : decode cX1_lay 10 = .ok (.getfield 12, 3) := by decide +kernel
theorem dX1_lay_13 : decode cX1_lay 13 = .ok (.iload_n 2, 1) := by decide +kernel
theorem dX1_lay_14 : decode cX1_lay 14 = .ok (.iload_n 3, 1) := by decide +kernel
theorem dX1_lay_15 : decode cX1_lay 15 = .ok (.invokevirtual 34, 3) := by decide +kernel
theorem dX1_lay_18 : decode cX1_lay 18 = .ok (.ifCond .ne 5, 3) := by decide +kernel
theorem dX1_lay_23 : decode cX1_lay 23 = .ok (.aload_n 1, 1) := by decide +kernel
theorem dX1_lay_24 : decode cX1_lay 24 = .ok (.iload_n 2, 1) := by decide +kernel
theorem dX1_lay_25 : decode cX1_lay 25 = .ok (.iload_n 3, 1) := by decide +kernel
theorem dX1_lay_26 : decode cX1_lay 26 = .ok (.aload_n 0, 1) := by decide +kernel
theorem dX1_lay_27 : decode cX1_lay 27 = .ok (.iload 4, 2) := by decide +kernel
theorem dX1_lay_29 : decode cX1_lay 29 = .ok (.aload_n 1, 1) := by decide +kernel
theorem dX1_lay_30 : decode cX1_lay 30 = .ok (.iload_n 2, 1) := by decide +kernel
theorem dX1_lay_31 : decode cX1_lay 31 = .ok (.iload_n 3, 1) := by decide +kernel
theorem dX1_lay_32 : decode cX1_lay 32 = .ok (.invokevirtual 37, 3) := by decide +kernel
theorem dX1_lay_35 : decode cX1_lay 35 = .ok (.iload 5, 2) := by decide +kernel
theorem dX1_lay_37 : decode cX1_lay 37 = .ok (.invokevirtual 41, 3) := by decide +kernel
theorem dX1_lay_40 : decode cX1_lay 40 = .ok (.invokevirtual 45, 3) := by decide +kernel
theorem dX1_lay_43 : decode cX1_lay 43 = .ok (.iconst 1, 1) := by decide +kernel
theorem dX1_lay_44 : decode cX1_lay 44 = .ok (.ireturn, 1) := by decide +kernel
theorem dX9_channel_0 : decode cX9_channel 0 = .ok (.iload_n 0, 1) := by decide +kernel
theorem dX9_channel_1 : decode cX9_channel 1 = .ok (.bipush 24, 2) := by decide +kernel
theorem dX9_channel_3 : decode cX9_channel 3 = .ok (.bipush 8, 2) := by decide +kernel
theorem dX9_channel_5 : decode cX9_channel 5 = .ok (.iload_n 1, 1) := by decide +kernel
theorem dX9_channel_6 : decode cX9_channel 6 = .ok (.imul, 1) := by decide +kernel
theorem dX9_channel_7 : decode cX9_channel 7 = .ok (.isub, 1) := by decide +kernel
theorem dX9_channel_8 : decode cX9_channel 8 = .ok (.ishr, 1) := by decide +kernel
theorem dX9_channel_9 : decode cX9_channel 9 = .ok (.sipush 255, 3) := by decide +kernel
theorem dX9_channel_12 : decode cX9_channel 12 = .ok (.iand, 1) := by decide +kernel
theorem dX9_channel_13 : decode cX9_channel 13 = .ok (.ireturn, 1) := by decide +kernel
theorem dX9_nearest_0 : decode cX9_nearest 0 = .ok (.iconst 2, 1) := by decide +kernel
theorem dX9_nearest_1 : decode cX9_nearest 1 = .ok (.iload_n 0, 1) := by decide +kernel
theorem dX9_nearest_2 : decode cX9_nearest 2 = .ok (.imul, 1) := by decide +kernel
theorem dX9_nearest_3 : decode cX9_nearest 3 = .ok (.iload_n 1, 1) := by decide +kernel
theorem dX9_nearest_4 : decode cX9_nearest 4 = .ok (.iadd, 1) := by decide +kernel
theorem dX9_nearest_5 : decode cX9_nearest 5 = .ok (.iconst 2, 1) := by decide +kernel
theorem dX9_nearest_6 : decode cX9_nearest 6 = .ok (.iload_n 1, 1) := by decide +kernel
theorem dX9_nearest_7 : decode cX9_nearest 7 = .ok (.imul, 1) := by decide +kernel
theorem dX9_nearest_8 : decode cX9_nearest 8 = .ok (.idiv, 1) := by decide +kernel
theorem dX9_nearest_9 : decode cX9_nearest 9 = .ok (.ireturn, 1) := by decide +kernel
theorem dX9_inkOf_0 : decode cX9_inkOf 0 = .ok (.iload_n 0, 1) := by decide +kernel
theorem dX9_inkOf_1 : decode cX9_inkOf 1 = .ok (.iconst 0, 1) := by decide +kernel
theorem dX9_inkOf_2 : decode cX9_inkOf 2 = .ok (.invokestatic 88, 3) := by decide +kernel
theorem dX9_inkOf_5 : decode cX9_inkOf 5 = .ok (.istore_n 1, 1) := by decide +kernel
theorem dX9_inkOf_6 : decode cX9_inkOf 6 = .ok (.iload_n 1, 1) := by decide +kernel
theorem dX9_inkOf_7 : decode cX9_inkOf 7 = .ok (.istore_n 2, 1) := by decide +kernel
theorem dX9_inkOf_8 : decode cX9_inkOf 8 = .ok (.iconst 1, 1) := by decide +kernel
theorem dX9_inkOf_9 : decode cX9_inkOf 9 = .ok (.istore_n 3, 1) := by decide +kernel
theorem dX9_inkOf_10 : decode cX9_inkOf 10 = .ok (.iload_n 3, 1) := by decide +kernel
theorem dX9_inkOf_11 : decode cX9_inkOf 11 = .ok (.iconst 4, 1) := by decide +kernel
theorem dX9_inkOf_12 : decode cX9_inkOf 12 = .ok (.if_icmp .ge 28, 3) := by decide +kernel
theorem dX9_inkOf_15 : decode cX9_inkOf 15 = .ok (.iload_n 2, 1) := by decide +kernel
theorem dX9_inkOf_16 : decode cX9_inkOf 16 = .ok (.bipush 8, 2) := by decide +kernel
theorem dX9_inkOf_18 : decode cX9_inkOf 18 = .ok (.ishl, 1) := by decide +kernel
theorem dX9_inkOf_19 : decode cX9_inkOf 19 = .ok (.iload_n 0, 1) := by decide +kernel
theorem dX9_inkOf_20 : decode cX9_inkOf 20 = .ok (.iload_n 3, 1) := by decide +kernel
theorem dX9_inkOf_21 : decode cX9_inkOf 21 = .ok (.invokestatic 88, 3) := by decide +kernel
theorem dX9_inkOf_24 : decode cX9_inkOf 24 = .ok (.iload_n 1, 1) := by decide +kernel
theorem dX9_inkOf_25 : decode cX9_inkOf 25 = .ok (.imul, 1) := by decide +kernel
theorem dX9_inkOf_26 : decode cX9_inkOf 26 = .ok (.sipush 255, 3) := by decide +kernel
theorem dX9_inkOf_29 : decode cX9_inkOf 29 = .ok (.invokestatic 92, 3) := by decide +kernel
theorem dX9_inkOf_32 : decode cX9_inkOf 32 = .ok (.ior, 1) := by decide +kernel
theorem dX9_inkOf_33 : decode cX9_inkOf 33 = .ok (.istore_n 2, 1) := by decide +kernel
theorem dX9_inkOf_34 : decode cX9_inkOf 34 = .ok (.iinc 3 1, 3) := by decide +kernel
theorem dX9_inkOf_37 : decode cX9_inkOf 37 = .ok (.goto (-27), 3) := by decide +kernel
theorem dX9_inkOf_40 : decode cX9_inkOf 40 = .ok (.iload_n 2, 1) := by decide +kernel
theorem dX9_inkOf_41 : decode cX9_inkOf 41 = .ok (.ireturn, 1) := by decide +kernel
theorem dX9_isNear_0 : decode cX9_isNear 0 = .ok (.iload_n 0, 1) := by decide +kernel
theorem dX9_isNear_1 : decode cX9_isNear 1 = .ok (.iload_n 1, 1) := by decide +kernel
theorem dX9_isNear_2 : decode cX9_isNear 2 = .ok (.ineg, 1) := by decide +kernel
theorem dX9_isNear_3 : decode cX9_isNear 3 = .ok (.if_icmp .lt 12, 3) := by decide +kernel
theorem dX9_isNear_15 : decode cX9_isNear 15 = .ok (.iconst 0, 1) := by decide +kernel
theorem dX9_isNear_16 : decode cX9_isNear 16 = .ok (.ireturn, 1) := by decide +kernel
theorem dX9_isNear_6 : decode cX9_isNear 6 = .ok (.iload_n 0, 1) := by decide +kernel
theorem dX9_isNear_7 : decode cX9_isNear 7 = .ok (.iload_n 1, 1) := by decide +kernel
theorem dX9_isNear_8 : decode cX9_isNear 8 = .ok (.if_icmp .gt 7, 3) := by decide +kernel
theorem dX9_isNear_11 : decode cX9_isNear 11 = .ok (.iconst 1, 1) := by decide +kernel
theorem dX9_isNear_12 : decode cX9_isNear 12 = .ok (.goto 4, 3) := by decide +kernel
theorem dX9_isSheet_0 : decode cX9_isSheet 0 = .ok (.iload_n 1, 1) := by decide +kernel
theorem dX9_isSheet_1 : decode cX9_isSheet 1 = .ok (.ifCond .lt 21, 3) := by decide +kernel
theorem dX9_isSheet_22 : decode cX9_isSheet 22 = .ok (.iconst 0, 1) := by decide +kernel
theorem dX9_isSheet_23 : decode cX9_isSheet 23 = .ok (.ireturn, 1) := by decide +kernel
theorem dX9_isSheet_4 : decode cX9_isSheet 4 = .ok (.iload_n 1, 1) := by decide +kernel
theorem dX9_isSheet_5 : decode cX9_isSheet 5 = .ok (.iconst 4, 1) := by decide +kernel
theorem dX9_isSheet_6 : decode cX9_isSheet 6 = .ok (.if_icmp .ge 16, 3) := by decide +kernel
theorem dX9_isSheet_9 : decode cX9_isSheet 9 = .ok (.aload_n 0, 1) := by decide +kernel
theorem dX9_isSheet_10 : decode cX9_isSheet 10 = .ok (.getfield 7, 3) := by decide +kernel
theorem dX9_isSheet_13 : decode cX9_isSheet 13 = .ok (.iload_n 1, 1) := by decide +kernel
theorem dX9_isSheet_14 : decode cX9_isSheet 14 = .ok (.iaload, 1) := by decide +kernel
theorem dX9_isSheet_15 : decode cX9_isSheet 15 = .ok (.ifCond .le 7, 3) := by decide +kernel
theorem dX9_isSheet_18 : decode cX9_isSheet 18 = .ok (.iconst 1, 1) := by decide +kernel
theorem dX9_isSheet_19 : decode cX9_isSheet 19 = .ok (.goto 4, 3) := by decide +kernel
theorem dX9_isOn_0 : decode cX9_isOn 0 = .ok (.iload_n 2, 1) := by decide +kernel
theorem dX9_isOn_1 : decode cX9_isOn 1 = .ok (.ifCond .lt 31, 3) := by decide +kernel
theorem dX9_isOn_32 : decode cX9_isOn 32 = .ok (.iconst 0, 1) := by decide +kernel
theorem dX9_isOn_33 : decode cX9_isOn 33 = .ok (.ireturn, 1) := by decide +kernel
theorem dX9_isOn_4 : decode cX9_isOn 4 = .ok (.iload_n 2, 1) := by decide +kernel
theorem dX9_isOn_5 : decode cX9_isOn 5 = .ok (.aload_n 0, 1) := by decide +kernel
theorem dX9_isOn_6 : decode cX9_isOn 6 = .ok (.getfield 7, 3) := by decide +kernel
theorem dX9_isOn_9 : decode cX9_isOn 9 = .ok (.iload_n 1, 1) := by decide +kernel
theorem dX9_isOn_10 : decode cX9_isOn 10 = .ok (.iaload, 1) := by decide +kernel
theorem dX9_isOn_11 : decode cX9_isOn 11 = .ok (.if_icmp .ge 21, 3) := by decide +kernel
theorem dX9_isOn_14 : decode cX9_isOn 14 = .ok (.iload_n 3, 1) := by decide +kernel
theorem dX9_isOn_15 : decode cX9_isOn 15 = .ok (.ifCond .lt 17, 3) := by decide +kernel
theorem dX9_isOn_18 : decode cX9_isOn 18 = .ok (.iload_n 3, 1) := by decide +kernel
theorem dX9_isOn_19 : decode cX9_isOn 19 = .ok (.aload_n 0, 1) := by decide +kernel
theorem dX9_isOn_20 : decode cX9_isOn 20 = .ok (.getfield 13, 3) := by decide +kernel
theorem dX9_isOn_23 : decode cX9_isOn 23 = .ok (.iload_n 1, 1) := by decide +kernel
theorem dX9_isOn_24 : decode cX9_isOn 24 = .ok (.iaload, 1) := by decide +kernel
theorem dX9_isOn_25 : decode cX9_isOn 25 = .ok (.if_icmp .ge 7, 3) := by decide +kernel
theorem dX9_isOn_28 : decode cX9_isOn 28 = .ok (.iconst 1, 1) := by decide +kernel
theorem dX9_isOn_29 : decode cX9_isOn 29 = .ok (.goto 4, 3) := by decide +kernel
theorem dX9_isInClip_0 : decode cX9_isInClip 0 = .ok (.aload_n 0, 1) := by decide +kernel
theorem dX9_isInClip_1 : decode cX9_isInClip 1 = .ok (.getfield 64, 3) := by decide +kernel
theorem dX9_isInClip_4 : decode cX9_isInClip 4 = .ok (.ifCond .eq 35, 3) := by decide +kernel
theorem dX9_isInClip_39 : decode cX9_isInClip 39 = .ok (.iconst 1, 1) := by decide +kernel
theorem dX9_isInClip_40 : decode cX9_isInClip 40 = .ok (.goto 4, 3) := by decide +kernel
theorem dX9_isInClip_44 : decode cX9_isInClip 44 = .ok (.ireturn, 1) := by decide +kernel
theorem dX9_isInClip_7 : decode cX9_isInClip 7 = .ok (.iload_n 1, 1) := by decide +kernel
theorem dX9_isInClip_8 : decode cX9_isInClip 8 = .ok (.aload_n 0, 1) := by decide +kernel
theorem dX9_isInClip_9 : decode cX9_isInClip 9 = .ok (.getfield 68, 3) := by decide +kernel
theorem dX9_isInClip_12 : decode cX9_isInClip 12 = .ok (.if_icmp .lt 31, 3) := by decide +kernel
theorem dX9_isInClip_43 : decode cX9_isInClip 43 = .ok (.iconst 0, 1) := by decide +kernel
theorem dX9_isInClip_15 : decode cX9_isInClip 15 = .ok (.iload_n 1, 1) := by decide +kernel
theorem dX9_isInClip_16 : decode cX9_isInClip 16 = .ok (.aload_n 0, 1) := by decide +kernel
theorem dX9_isInClip_17 : decode cX9_isInClip 17 = .ok (.getfield 71, 3) := by decide +kernel
theorem dX9_isInClip_20 : decode cX9_isInClip 20 = .ok (.if_icmp .gt 23, 3) := by decide +kernel
theorem dX9_isInClip_23 : decode cX9_isInClip 23 = .ok (.iload_n 2, 1) := by decide +kernel
theorem dX9_isInClip_24 : decode cX9_isInClip 24 = .ok (.aload_n 0, 1) := by decide +kernel
theorem dX9_isInClip_25 : decode cX9_isInClip 25 = .ok (.getfield 74, 3) := by decide +kernel
theorem dX9_isInClip_28 : decode cX9_isInClip 28 = .ok (.if_icmp .lt 15, 3) := by decide +kernel
theorem dX9_isInClip_31 : decode cX9_isInClip 31 = .ok (.iload_n 2, 1) := by decide +kernel
theorem dX9_isInClip_32 : decode cX9_isInClip 32 = .ok (.aload_n 0, 1) := by decide +kernel
theorem dX9_isInClip_33 : decode cX9_isInClip 33 = .ok (.getfield 77, 3) := by decide +kernel
theorem dX9_isInClip_36 : decode cX9_isInClip 36 = .ok (.if_icmp .gt 7, 3) := by decide +kernel
theorem dX9_isOpen_0 : decode cX9_isOpen 0 = .ok (.aload_n 0, 1) := by decide +kernel
theorem dX9_isOpen_1 : decode cX9_isOpen 1 = .ok (.iload_n 1, 1) := by decide +kernel
theorem dX9_isOpen_2 : decode cX9_isOpen 2 = .ok (.iload_n 2, 1) := by decide +kernel
theorem dX9_isOpen_3 : decode cX9_isOpen 3 = .ok (.iload_n 3, 1) := by decide +kernel
theorem dX9_isOpen_4 : decode cX9_isOpen 4 = .ok (.invokevirtual 80, 3) := by decide +kernel
theorem dX9_isOpen_7 : decode cX9_isOpen 7 = .ok (.ifCond .eq 16, 3) := by decide +kernel
theorem dX9_isOpen_23 : decode cX9_isOpen 23 = .ok (.iconst 0, 1) := by decide +kernel
theorem dX9_isOpen_24 : decode cX9_isOpen 24 = .ok (.ireturn, 1) := by decide +kernel
theorem dX9_isOpen_10 : decode cX9_isOpen 10 = .ok (.aload_n 0, 1) := by decide +kernel
theorem dX9_isOpen_11 : decode cX9_isOpen 11 = .ok (.iload_n 2, 1) := by decide +kernel
theorem dX9_isOpen_12 : decode cX9_isOpen 12 = .ok (.iload_n 3, 1) := by decide +kernel
theorem dX9_isOpen_13 : decode cX9_isOpen 13 = .ok (.invokevirtual 84, 3) := by decide +kernel
theorem dX9_isOpen_16 : decode cX9_isOpen 16 = .ok (.ifCond .eq 7, 3) := by decide +kernel
theorem dX9_isOpen_19 : decode cX9_isOpen 19 = .ok (.iconst 1, 1) := by decide +kernel
theorem dX9_isOpen_20 : decode cX9_isOpen 20 = .ok (.goto 4, 3) := by decide +kernel
theorem dX9_sourcePart_0 : decode cX9_sourcePart 0 = .ok (.aload_n 0, 1) := by decide +kernel
theorem dX9_sourcePart_1 : decode cX9_sourcePart 1 = .ok (.getfield 23, 3) := by decide +kernel
theorem dX9_sourcePart_4 : decode cX9_sourcePart 4 = .ok (.tableswitch 76 1 12 #[64, 76, 64, 68, 74, 76, 68, 76, 74, 68, 68, 64], 64) := by decide +kernel
theorem dX9_sourcePart_80 : decode cX9_sourcePart 80 = .ok (.iconst 0, 1) := by decide +kernel
theorem dX9_sourcePart_81 : decode cX9_sourcePart 81 = .ok (.ireturn, 1) := by decide +kernel
theorem dX9_sourcePart_68 : decode cX9_sourcePart 68 = .ok (.sipush 255, 3) := by decide +kernel
theorem dX9_sourcePart_71 : decode cX9_sourcePart 71 = .ok (.ireturn, 1) := by decide +kernel
theorem dX9_sourcePart_72 : decode cX9_sourcePart 72 = .ok (.sipush 255, 3) := by decide +kernel
theorem dX9_sourcePart_75 : decode cX9_sourcePart 75 = .ok (.iload_n 2, 1) := by decide +kernel
theorem dX9_sourcePart_76 : decode cX9_sourcePart 76 = .ok (.isub, 1) := by decide +kernel
theorem dX9_sourcePart_77 : decode cX9_sourcePart 77 = .ok (.ireturn, 1) := by decide +kernel
theorem dX9_sourcePart_78 : decode cX9_sourcePart 78 = .ok (.iload_n 2, 1) := by decide +kernel
theorem dX9_sourcePart_79 : decode cX9_sourcePart 79 = .ok (.ireturn, 1) := by decide +kernel
theorem dX9_otherPart_0 : decode cX9_otherPart 0 = .ok (.aload_n 0, 1) := by decide +kernel
theorem dX9_otherPart_1 : decode cX9_otherPart 1 = .ok (.getfield 23, 3) := by decide +kernel
theorem dX9_otherPart_4 : decode cX9_otherPart 4 = .ok (.tableswitch 72 2 12 #[60, 64, 60, 72, 70, 72, 64, 64, 70, 64, 60], 60) := by decide +kernel
theorem dX9_otherPart_76 : decode cX9_otherPart 76 = .ok (.iconst 0, 1) := by decide +kernel
theorem dX9_otherPart_77 : decode cX9_otherPart 77 = .ok (.ireturn, 1) := by decide +kernel
theorem dX9_otherPart_64 : decode cX9_otherPart 64 = .ok (.sipush 255, 3) := by decide +kernel
theorem dX9_otherPart_67 : decode cX9_otherPart 67 = .ok (.ireturn, 1) := by decide +kernel
theorem dX9_otherPart_68 : decode cX9_otherPart 68 = .ok (.sipush 255, 3) := by decide +kernel
theorem dX9_otherPart_71 : decode cX9_otherPart 71 = .ok (.iload_n 1, 1) := by decide +kernel
theorem dX9_otherPart_72 : decode cX9_otherPart 72 = .ok (.isub, 1) := by decide +kernel
theorem dX9_otherPart_73 : decode cX9_otherPart 73 = .ok (.ireturn, 1) := by decide +kernel
theorem dX9_otherPart_74 : decode cX9_otherPart 74 = .ok (.iload_n 1, 1) := by decide +kernel
theorem dX9_otherPart_75 : decode cX9_otherPart 75 = .ok (.ireturn, 1) := by decide +kernel
theorem dX9_laid_0 : decode cX9_laid 0 = .ok (.aload_n 0, 1) := by decide +kernel
theorem dX9_laid_1 : decode cX9_laid 1 = .ok (.iload_n 1, 1) := by decide +kernel
theorem dX9_laid_2 : decode cX9_laid 2 = .ok (.iconst 0, 1) := by decide +kernel
theorem dX9_laid_3 : decode cX9_laid 3 = .ok (.invokestatic 88, 3) := by decide +kernel
theorem dX9_laid_6 : decode cX9_laid 6 = .ok (.iload_n 2, 1) := by decide +kernel
theorem dX9_laid_7 : decode cX9_laid 7 = .ok (.iconst 0, 1) := by decide +kernel
theorem dX9_laid_8 : decode cX9_laid 8 = .ok (.invokestatic 88, 3) := by decide +kernel
theorem dX9_laid_11 : decode cX9_laid 11 = .ok (.invokevirtual 95, 3) := by decide +kernel
theorem dX9_laid_14 : decode cX9_laid 14 = .ok (.istore 4, 2) := by decide +kernel
theorem dX9_laid_16 : decode cX9_laid 16 = .ok (.aload_n 0, 1) := by decide +kernel
theorem dX9_laid_17 : decode cX9_laid 17 = .ok (.iload_n 1, 1) := by decide +kernel
theorem dX9_laid_18 : decode cX9_laid 18 = .ok (.iconst 0, 1) := by decide +kernel
theorem dX9_laid_19 : decode cX9_laid 19 = .ok (.invokestatic 88, 3) := by decide +kernel
theorem dX9_laid_22 : decode cX9_laid 22 = .ok (.iload_n 2, 1) := by decide +kernel
theorem dX9_laid_23 : decode cX9_laid 23 = .ok (.iconst 0, 1) := by decide +kernel
theorem dX9_laid_24 : decode cX9_laid 24 = .ok (.invokestatic 88, 3) := by decide +kernel
theorem dX9_laid_27 : decode cX9_laid 27 = .ok (.invokevirtual 98, 3) := by decide +kernel
theorem dX9_laid_30 : decode cX9_laid 30 = .ok (.istore 5, 2) := by decide +kernel
theorem dX9_laid_32 : decode cX9_laid 32 = .ok (.iconst 0, 1) := by decide +kernel
theorem dX9_laid_33 : decode cX9_laid 33 = .ok (.istore 6, 2) := by decide +kernel
theorem dX9_laid_35 : decode cX9_laid 35 = .ok (.iconst 0, 1) := by decide +kernel
theorem dX9_laid_36 : decode cX9_laid 36 = .ok (.istore 7, 2) := by decide +kernel
theorem dX9_laid_38 : decode cX9_laid 38 = .ok (.iload 7, 2) := by decide +kernel
theorem dX9_laid_40 : decode cX9_laid 40 = .ok (.iconst 4, 1) := by decide +kernel
theorem dX9_laid_41 : decode cX9_laid 41 = .ok (.if_icmp .ge 80, 3) := by decide +kernel
theorem dX9_laid_44 : decode cX9_laid 44 = .ok (.iload_n 1, 1) := by decide +kernel
theorem dX9_laid_45 : decode cX9_laid 45 = .ok (.iload 7, 2) := by decide +kernel
theorem dX9_laid_47 : decode cX9_laid 47 = .ok (.invokestatic 88, 3) := by decide +kernel
theorem dX9_laid_50 : decode cX9_laid 50 = .ok (.iload 4, 2) := by decide +kernel
theorem dX9_laid_52 : decode cX9_laid 52 = .ok (.imul, 1) := by decide +kernel
theorem dX9_laid_53 : decode cX9_laid 53 = .ok (.iload_n 2, 1) := by decide +kernel
theorem dX9_laid_54 : decode cX9_laid 54 = .ok (.iload 7, 2) := by decide +kernel
theorem dX9_laid_56 : decode cX9_laid 56 = .ok (.invokestatic 88, 3) := by decide +kernel
theorem dX9_laid_59 : decode cX9_laid 59 = .ok (.iload 5, 2) := by decide +kernel
theorem dX9_laid_61 : decode cX9_laid 61 = .ok (.imul, 1) := by decide +kernel
theorem dX9_laid_62 : decode cX9_laid 62 = .ok (.iadd, 1) := by decide +kernel
theorem dX9_laid_63 : decode cX9_laid 63 = .ok (.sipush 255, 3) := by decide +kernel
theorem dX9_laid_66 : decode cX9_laid 66 = .ok (.invokestatic 92, 3) := by decide +kernel
theorem dX9_laid_69 : decode cX9_laid 69 = .ok (.istore 8, 2) := by decide +kernel
theorem dX9_laid_84 : decode cX9_laid 84 = .ok (.iload 6, 2) := by decide +kernel
theorem dX9_laid_86 : decode cX9_laid 86 = .ok (.bipush 8, 2) := by decide +kernel
theorem dX9_laid_88 : decode cX9_laid 88 = .ok (.ishl, 1) := by decide +kernel
theorem dX9_laid_89 : decode cX9_laid 89 = .ok (.iload 8, 2) := by decide +kernel
theorem dX9_laid_91 : decode cX9_laid 91 = .ok (.iload_n 3, 1) := by decide +kernel
theorem dX9_laid_92 : decode cX9_laid 92 = .ok (.imul, 1) := by decide +kernel
theorem dX9_laid_93 : decode cX9_laid 93 = .ok (.iload_n 2, 1) := by decide +kernel
theorem dX9_laid_94 : decode cX9_laid 94 = .ok (.iload 7, 2) := by decide +kernel
theorem dX9_laid_96 : decode cX9_laid 96 = .ok (.invokestatic 88, 3) := by decide +kernel
theorem dX9_laid_99 : decode cX9_laid 99 = .ok (.sipush 255, 3) := by decide +kernel
theorem dX9_laid_102 : decode cX9_laid 102 = .ok (.iload_n 3, 1) := by decide +kernel
theorem dX9_laid_103 : decode cX9_laid 103 = .ok (.isub, 1) := by decide +kernel
theorem dX9_laid_104 : decode cX9_laid 104 = .ok (.imul, 1) := by decide +kernel
theorem dX9_laid_105 : decode cX9_laid 105 = .ok (.iadd, 1) := by decide +kernel
theorem dX9_laid_106 : decode cX9_laid 106 = .ok (.sipush 255, 3) := by decide +kernel
theorem dX9_laid_109 : decode cX9_laid 109 = .ok (.invokestatic 92, 3) := by decide +kernel
theorem dX9_laid_112 : decode cX9_laid 112 = .ok (.ior, 1) := by decide +kernel
theorem dX9_laid_113 : decode cX9_laid 113 = .ok (.istore 6, 2) := by decide +kernel
theorem dX9_laid_115 : decode cX9_laid 115 = .ok (.iinc 7 1, 3) := by decide +kernel
theorem dX9_laid_118 : decode cX9_laid 118 = .ok (.goto (-80), 3) := by decide +kernel
theorem dX9_laid_121 : decode cX9_laid 121 = .ok (.iload 6, 2) := by decide +kernel
theorem dX9_laid_123 : decode cX9_laid 123 = .ok (.ireturn, 1) := by decide +kernel
theorem dX9_laid_71 : decode cX9_laid 71 = .ok (.iload 8, 2) := by decide +kernel
theorem dX9_laid_73 : decode cX9_laid 73 = .ok (.sipush 255, 3) := by decide +kernel
theorem dX9_laid_76 : decode cX9_laid 76 = .ok (.if_icmp .le 8, 3) := by decide +kernel
theorem dX9_laid_79 : decode cX9_laid 79 = .ok (.sipush 255, 3) := by decide +kernel
theorem dX9_laid_82 : decode cX9_laid 82 = .ok (.istore 8, 2) := by decide +kernel
theorem dX9_begins_0 : decode cX9_begins 0 = .ok (.iconst 0, 1) := by decide +kernel
theorem dX9_begins_1 : decode cX9_begins 1 = .ok (.istore_n 1, 1) := by decide +kernel
theorem dX9_begins_2 : decode cX9_begins 2 = .ok (.iload_n 1, 1) := by decide +kernel
theorem dX9_begins_3 : decode cX9_begins 3 = .ok (.sipush 4096, 3) := by decide +kernel
theorem dX9_begins_6 : decode cX9_begins 6 = .ok (.if_icmp .ge 16, 3) := by decide +kernel
theorem dX9_begins_22 : decode cX9_begins 22 = .ok (.return_, 1) := by decide +kernel
theorem dX9_begins_9 : decode cX9_begins 9 = .ok (.aload_n 0, 1) := by decide +kernel
theorem dX9_begins_10 : decode cX9_begins 10 = .ok (.getfield 33, 3) := by decide +kernel
theorem dX9_begins_13 : decode cX9_begins 13 = .ok (.iload_n 1, 1) := by decide +kernel
theorem dX9_begins_14 : decode cX9_begins 14 = .ok (.iconst 0, 1) := by decide +kernel
theorem dX9_begins_15 : decode cX9_begins 15 = .ok (.bastore, 1) := by decide +kernel
theorem dX9_begins_16 : decode cX9_begins 16 = .ok (.iinc 1 1, 3) := by decide +kernel
theorem dX9_begins_19 : decode cX9_begins 19 = .ok (.goto (-17), 3) := by decide +kernel
theorem dX9_marks_0 : decode cX9_marks 0 = .ok (.aload_n 0, 1) := by decide +kernel
theorem dX9_marks_1 : decode cX9_marks 1 = .ok (.iload_n 1, 1) := by decide +kernel
theorem dX9_marks_2 : decode cX9_marks 2 = .ok (.iload_n 2, 1) := by decide +kernel
theorem dX9_marks_3 : decode cX9_marks 3 = .ok (.iload_n 3, 1) := by decide +kernel
theorem dX9_marks_4 : decode cX9_marks 4 = .ok (.invokevirtual 101, 3) := by decide +kernel
theorem dX9_marks_7 : decode cX9_marks 7 = .ok (.ifCond .ne 4, 3) := by decide +kernel
theorem dX9_marks_11 : decode cX9_marks 11 = .ok (.bipush 64, 2) := by decide +kernel
theorem dX9_marks_13 : decode cX9_marks 13 = .ok (.iload_n 3, 1) := by decide +kernel
theorem dX9_marks_14 : decode cX9_marks 14 = .ok (.imul, 1) := by decide +kernel
theorem dX9_marks_15 : decode cX9_marks 15 = .ok (.iload_n 2, 1) := by decide +kernel
theorem dX9_marks_16 : decode cX9_marks 16 = .ok (.iadd, 1) := by decide +kernel
theorem dX9_marks_17 : decode cX9_marks 17 = .ok (.istore 6, 2) := by decide +kernel
theorem dX9_marks_19 : decode cX9_marks 19 = .ok (.aload_n 0, 1) := by decide +kernel
theorem dX9_marks_20 : decode cX9_marks 20 = .ok (.getfield 33, 3) := by decide +kernel
theorem dX9_marks_23 : decode cX9_marks 23 = .ok (.iload 6, 2) := by decide +kernel
theorem dX9_marks_25 : decode cX9_marks 25 = .ok (.iconst 1, 1) := by decide +kernel
theorem dX9_marks_26 : decode cX9_marks 26 = .ok (.bastore, 1) := by decide +kernel
theorem dX9_marks_27 : decode cX9_marks 27 = .ok (.aload_n 0, 1) := by decide +kernel
theorem dX9_marks_28 : decode cX9_marks 28 = .ok (.getfield 37, 3) := by decide +kernel
theorem dX9_marks_31 : decode cX9_marks 31 = .ok (.iload 6, 2) := by decide +kernel
theorem dX9_marks_33 : decode cX9_marks 33 = .ok (.iload 5, 2) := by decide +kernel
theorem dX9_marks_35 : decode cX9_marks 35 = .ok (.iastore, 1) := by decide +kernel
theorem dX9_marks_36 : decode cX9_marks 36 = .ok (.aload_n 0, 1) := by decide +kernel
theorem dX9_marks_37 : decode cX9_marks 37 = .ok (.getfield 40, 3) := by decide +kernel
theorem dX9_marks_40 : decode cX9_marks 40 = .ok (.iload 6, 2) := by decide +kernel
theorem dX9_marks_42 : decode cX9_marks 42 = .ok (.iload 4, 2) := by decide +kernel
theorem dX9_marks_44 : decode cX9_marks 44 = .ok (.iastore, 1) := by decide +kernel
theorem dX9_marks_45 : decode cX9_marks 45 = .ok (.return_, 1) := by decide +kernel
theorem dX9_marks_10 : decode cX9_marks 10 = .ok (.return_, 1) := by decide +kernel
theorem dX9_lays_0 : decode cX9_lays 0 = .ok (.iconst 0, 1) := by decide +kernel
theorem dX9_lays_1 : decode cX9_lays 1 = .ok (.istore_n 2, 1) := by decide +kernel
theorem dX9_lays_2 : decode cX9_lays 2 = .ok (.iconst 0, 1) := by decide +kernel
theorem dX9_lays_3 : decode cX9_lays 3 = .ok (.istore_n 3, 1) := by decide +kernel
theorem dX9_lays_4 : decode cX9_lays 4 = .ok (.iload_n 3, 1) := by decide +kernel
theorem dX9_lays_5 : decode cX9_lays 5 = .ok (.sipush 4096, 3) := by decide +kernel
theorem dX9_lays_8 : decode cX9_lays 8 = .ok (.if_icmp .ge 65, 3) := by decide +kernel
theorem dX9_lays_73 : decode cX9_lays 73 = .ok (.iload_n 2, 1) := by decide +kernel
theorem dX9_lays_74 : decode cX9_lays 74 = .ok (.ireturn, 1) := by decide +kernel
theorem dX9_lays_11 : decode cX9_lays 11 = .ok (.aload_n 0, 1) := by decide +kernel
theorem dX9_lays_12 : decode cX9_lays 12 = .ok (.getfield 33, 3) := by decide +kernel
theorem dX9_lays_15 : decode cX9_lays 15 = .ok (.iload_n 3, 1) := by decide +kernel
theorem dX9_lays_16 : decode cX9_lays 16 = .ok (.baload, 1) := by decide +kernel
theorem dX9_lays_17 : decode cX9_lays 17 = .ok (.ifCond .ne 6, 3) := by decide +kernel
theorem dX9_lays_23 : decode cX9_lays 23 = .ok (.aload_n 0, 1) := by decide +kernel
theorem dX9_lays_24 : decode cX9_lays 24 = .ok (.getfield 16, 3) := by decide +kernel
theorem dX9_lays_27 : decode cX9_lays 27 = .ok (.sipush 4096, 3) := by decide +kernel
theorem dX9_lays_30 : decode cX9_lays 30 = .ok (.iload_n 1, 1) := by decide +kernel
theorem dX9_lays_31 : decode cX9_lays 31 = .ok (.imul, 1) := by decide +kernel
theorem dX9_lays_32 : decode cX9_lays 32 = .ok (.iload_n 3, 1) := by decide +kernel
theorem dX9_lays_33 : decode cX9_lays 33 = .ok (.iadd, 1) := by decide +kernel
theorem dX9_lays_34 : decode cX9_lays 34 = .ok (.aload_n 0, 1) := by decide +kernel
theorem dX9_lays_35 : decode cX9_lays 35 = .ok (.aload_n 0, 1) := by decide +kernel
theorem dX9_lays_36 : decode cX9_lays 36 = .ok (.getfield 40, 3) := by decide +kernel
theorem dX9_lays_39 : decode cX9_lays 39 = .ok (.iload_n 3, 1) := by decide +kernel
theorem dX9_lays_40 : decode cX9_lays 40 = .ok (.iaload, 1) := by decide +kernel
theorem dX9_lays_41 : decode cX9_lays 41 = .ok (.aload_n 0, 1) := by decide +kernel
theorem dX9_lays_42 : decode cX9_lays 42 = .ok (.getfield 16, 3) := by decide +kernel
theorem dX9_lays_45 : decode cX9_lays 45 = .ok (.sipush 4096, 3) := by decide +kernel
theorem dX9_lays_48 : decode cX9_lays 48 = .ok (.iload_n 1, 1) := by decide +kernel
theorem dX9_lays_49 : decode cX9_lays 49 = .ok (.imul, 1) := by decide +kernel
theorem dX9_lays_50 : decode cX9_lays 50 = .ok (.iload_n 3, 1) := by decide +kernel
theorem dX9_lays_51 : decode cX9_lays 51 = .ok (.iadd, 1) := by decide +kernel
theorem dX9_lays_52 : decode cX9_lays 52 = .ok (.iaload, 1) := by decide +kernel
theorem dX9_lays_53 : decode cX9_lays 53 = .ok (.aload_n 0, 1) := by decide +kernel
theorem dX9_lays_54 : decode cX9_lays 54 = .ok (.getfield 37, 3) := by decide +kernel
theorem dX9_lays_57 : decode cX9_lays 57 = .ok (.iload_n 3, 1) := by decide +kernel
theorem dX9_lays_58 : decode cX9_lays 58 = .ok (.iaload, 1) := by decide +kernel
theorem dX9_lays_59 : decode cX9_lays 59 = .ok (.invokevirtual 104, 3) := by decide +kernel
theorem dX9_lays_62 : decode cX9_lays 62 = .ok (.iastore, 1) := by decide +kernel
theorem dX9_lays_63 : decode cX9_lays 63 = .ok (.iload_n 2, 1) := by decide +kernel
theorem dX9_lays_64 : decode cX9_lays 64 = .ok (.iconst 1, 1) := by decide +kernel
theorem dX9_lays_65 : decode cX9_lays 65 = .ok (.iadd, 1) := by decide +kernel
theorem dX9_lays_66 : decode cX9_lays 66 = .ok (.istore_n 2, 1) := by decide +kernel
theorem dX9_lays_67 : decode cX9_lays 67 = .ok (.iinc 3 1, 3) := by decide +kernel
theorem dX9_lays_70 : decode cX9_lays 70 = .ok (.goto (-66), 3) := by decide +kernel
theorem dX9_lays_20 : decode cX9_lays 20 = .ok (.goto 47, 3) := by decide +kernel
