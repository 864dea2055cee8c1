theorem dX8_isWithin_0 : decode cX8_isWithin 0 = .ok (.iload_n 0, 1) := by decide +kernel
theorem dX8_isWithin_1 : decode cX8_isWithin 1 = .ok (.iload_n 1, 1) := by decide +kernel
theorem dX8_isWithin_2 : decode cX8_isWithin 2 = .ok (.if_icmp .lt 12, 3) := by decide +kernel
theorem dX8_isWithin_14 : decode cX8_isWithin 14 = .ok (.iconst 0, 1) := by decide +kernel
theorem dX8_isWithin_15 : decode cX8_isWithin 15 = .ok (.ireturn, 1) := by decide +kernel
theorem dX8_isWithin_5 : decode cX8_isWithin 5 = .ok (.iload_n 0, 1) := by decide +kernel
theorem dX8_isWithin_6 : decode cX8_isWithin 6 = .ok (.iload_n 2, 1) := by decide +kernel
theorem dX8_isWithin_7 : decode cX8_isWithin 7 = .ok (.if_icmp .gt 7, 3) := by decide +kernel
theorem dX8_isWithin_10 : decode cX8_isWithin 10 = .ok (.iconst 1, 1) := by decide +kernel
theorem dX8_isWithin_11 : decode cX8_isWithin 11 = .ok (.goto 4, 3) := by decide +kernel
theorem dX8_isNear_0 : decode cX8_isNear 0 = .ok (.iload_n 0, 1) := by decide +kernel
theorem dX8_isNear_1 : decode cX8_isNear 1 = .ok (.iload_n 1, 1) := by decide +kernel
theorem dX8_isNear_2 : decode cX8_isNear 2 = .ok (.ineg, 1) := by decide +kernel
theorem dX8_isNear_3 : decode cX8_isNear 3 = .ok (.iload_n 1, 1) := by decide +kernel
theorem dX8_isNear_4 : decode cX8_isNear 4 = .ok (.invokestatic 79, 3) := by decide +kernel
theorem dX8_isNear_7 : decode cX8_isNear 7 = .ok (.ireturn, 1) := by decide +kernel
theorem dX8_isSide_0 : decode cX8_isSide 0 = .ok (.iload_n 0, 1) := by decide +kernel
theorem dX8_isSide_1 : decode cX8_isSide 1 = .ok (.iconst 1, 1) := by decide +kernel
theorem dX8_isSide_2 : decode cX8_isSide 2 = .ok (.bipush 64, 2) := by decide +kernel
theorem dX8_isSide_4 : decode cX8_isSide 4 = .ok (.invokestatic 79, 3) := by decide +kernel
theorem dX8_isSide_7 : decode cX8_isSide 7 = .ok (.ireturn, 1) := by decide +kernel
theorem dX8_isRule_0 : decode cX8_isRule 0 = .ok (.iload_n 0, 1) := by decide +kernel
theorem dX8_isRule_1 : decode cX8_isRule 1 = .ok (.ifCond .eq 8, 3) := by decide +kernel
theorem dX8_isRule_9 : decode cX8_isRule 9 = .ok (.iconst 1, 1) := by decide +kernel
theorem dX8_isRule_10 : decode cX8_isRule 10 = .ok (.goto 4, 3) := by decide +kernel
theorem dX8_isRule_14 : decode cX8_isRule 14 = .ok (.ireturn, 1) := by decide +kernel
theorem dX8_isRule_4 : decode cX8_isRule 4 = .ok (.iload_n 0, 1) := by decide +kernel
theorem dX8_isRule_5 : decode cX8_isRule 5 = .ok (.iconst 1, 1) := by decide +kernel
theorem dX8_isRule_6 : decode cX8_isRule 6 = .ok (.if_icmp .ne 7, 3) := by decide +kernel
theorem dX8_isRule_13 : decode cX8_isRule 13 = .ok (.iconst 0, 1) := by decide +kernel
theorem dX8_isIn_0 : decode cX8_isIn 0 = .ok (.iload_n 1, 1) := by decide +kernel
theorem dX8_isIn_1 : decode cX8_isIn 1 = .ok (.ifCond .ne 18, 3) := by decide +kernel
theorem dX8_isIn_19 : decode cX8_isIn 19 = .ok (.iload_n 0, 1) := by decide +kernel
theorem dX8_isIn_20 : decode cX8_isIn 20 = .ok (.ifCond .eq 7, 3) := by decide +kernel
theorem dX8_isIn_27 : decode cX8_isIn 27 = .ok (.iconst 0, 1) := by decide +kernel
theorem dX8_isIn_28 : decode cX8_isIn 28 = .ok (.ireturn, 1) := by decide +kernel
theorem dX8_isIn_4 : decode cX8_isIn 4 = .ok (.iload_n 0, 1) := by decide +kernel
theorem dX8_isIn_5 : decode cX8_isIn 5 = .ok (.iconst 1, 1) := by decide +kernel
theorem dX8_isIn_6 : decode cX8_isIn 6 = .ok (.iand, 1) := by decide +kernel
theorem dX8_isIn_7 : decode cX8_isIn 7 = .ok (.iconst 1, 1) := by decide +kernel
theorem dX8_isIn_8 : decode cX8_isIn 8 = .ok (.if_icmp .ne 7, 3) := by decide +kernel
theorem dX8_isIn_15 : decode cX8_isIn 15 = .ok (.iconst 0, 1) := by decide +kernel
theorem dX8_isIn_16 : decode cX8_isIn 16 = .ok (.goto 12, 3) := by decide +kernel
theorem dX8_shareOfFull_0 : decode cX8_shareOfFull 0 = .ok (.iconst 2, 1) := by decide +kernel
theorem dX8_shareOfFull_1 : decode cX8_shareOfFull 1 = .ok (.iload_n 0, 1) := by decide +kernel
theorem dX8_shareOfFull_2 : decode cX8_shareOfFull 2 = .ok (.imul, 1) := by decide +kernel
theorem dX8_shareOfFull_3 : decode cX8_shareOfFull 3 = .ok (.sipush 255, 3) := by decide +kernel
theorem dX8_shareOfFull_6 : decode cX8_shareOfFull 6 = .ok (.iadd, 1) := by decide +kernel
theorem dX8_shareOfFull_7 : decode cX8_shareOfFull 7 = .ok (.sipush 510, 3) := by decide +kernel
theorem dX8_shareOfFull_10 : decode cX8_shareOfFull 10 = .ok (.idiv, 1) := by decide +kernel
theorem dX8_shareOfFull_11 : decode cX8_shareOfFull 11 = .ok (.ireturn, 1) := by decide +kernel
theorem dX8_channel_0 : decode cX8_channel 0 = .ok (.iload_n 0, 1) := by decide +kernel
theorem dX8_channel_1 : decode cX8_channel 1 = .ok (.iload_n 1, 1) := by decide +kernel
theorem dX8_channel_2 : decode cX8_channel 2 = .ok (.iushr, 1) := by decide +kernel
theorem dX8_channel_3 : decode cX8_channel 3 = .ok (.sipush 255, 3) := by decide +kernel
theorem dX8_channel_6 : decode cX8_channel 6 = .ok (.iand, 1) := by decide +kernel
theorem dX8_channel_7 : decode cX8_channel 7 = .ok (.ireturn, 1) := by decide +kernel
theorem dX8_inkOf_0 : decode cX8_inkOf 0 = .ok (.iload_n 0, 1) := by decide +kernel
theorem dX8_inkOf_1 : decode cX8_inkOf 1 = .ok (.bipush 24, 2) := by decide +kernel
theorem dX8_inkOf_3 : decode cX8_inkOf 3 = .ok (.invokestatic 215, 3) := by decide +kernel
theorem dX8_inkOf_6 : decode cX8_inkOf 6 = .ok (.istore_n 1, 1) := by decide +kernel
theorem dX8_inkOf_7 : decode cX8_inkOf 7 = .ok (.iload_n 1, 1) := by decide +kernel
theorem dX8_inkOf_8 : decode cX8_inkOf 8 = .ok (.istore_n 2, 1) := by decide +kernel
theorem dX8_inkOf_9 : decode cX8_inkOf 9 = .ok (.bipush 16, 2) := by decide +kernel
theorem dX8_inkOf_11 : decode cX8_inkOf 11 = .ok (.istore_n 3, 1) := by decide +kernel
theorem dX8_inkOf_12 : decode cX8_inkOf 12 = .ok (.iload_n 3, 1) := by decide +kernel
theorem dX8_inkOf_13 : decode cX8_inkOf 13 = .ok (.ifCond .lt 25, 3) := by decide +kernel
theorem dX8_inkOf_16 : decode cX8_inkOf 16 = .ok (.iload_n 2, 1) := by decide +kernel
theorem dX8_inkOf_17 : decode cX8_inkOf 17 = .ok (.bipush 8, 2) := by decide +kernel
theorem dX8_inkOf_19 : decode cX8_inkOf 19 = .ok (.ishl, 1) := by decide +kernel
theorem dX8_inkOf_20 : decode cX8_inkOf 20 = .ok (.iload_n 0, 1) := by decide +kernel
theorem dX8_inkOf_21 : decode cX8_inkOf 21 = .ok (.iload_n 3, 1) := by decide +kernel
theorem dX8_inkOf_22 : decode cX8_inkOf 22 = .ok (.invokestatic 215, 3) := by decide +kernel
theorem dX8_inkOf_25 : decode cX8_inkOf 25 = .ok (.iload_n 1, 1) := by decide +kernel
theorem dX8_inkOf_26 : decode cX8_inkOf 26 = .ok (.imul, 1) := by decide +kernel
theorem dX8_inkOf_27 : decode cX8_inkOf 27 = .ok (.invokestatic 218, 3) := by decide +kernel
theorem dX8_inkOf_30 : decode cX8_inkOf 30 = .ok (.ior, 1) := by decide +kernel
theorem dX8_inkOf_31 : decode cX8_inkOf 31 = .ok (.istore_n 2, 1) := by decide +kernel
theorem dX8_inkOf_32 : decode cX8_inkOf 32 = .ok (.iinc 3 (-8), 3) := by decide +kernel
theorem dX8_inkOf_35 : decode cX8_inkOf 35 = .ok (.goto (-23), 3) := by decide +kernel
theorem dX8_inkOf_38 : decode cX8_inkOf 38 = .ok (.iload_n 2, 1) := by decide +kernel
theorem dX8_inkOf_39 : decode cX8_inkOf 39 = .ok (.ireturn, 1) := by decide +kernel
theorem dX9_isNear_0 : decode cX9_isNear 0 = .ok (.iload_n 0, 1) := by decide +kernel
theorem dX9_isNear_1 : decode cX9_isNear 1 = .ok (.iload_n 1, 1) := by decide +kernel
theorem dX9_isNear_2 : decode cX9_isNear 2 = .ok (.ineg, 1) := by decide +kernel
theorem dX9_isNear_3 : decode cX9_isNear 3 = .ok (.if_icmp .lt 12, 3) := by decide +kernel
theorem dX9_isNear_15 : decode cX9_isNear 15 = .ok (.iconst 0, 1) := by decide +kernel
theorem dX9_isNear_16 : decode cX9_isNear 16 = .ok (.ireturn, 1) := by decide +kernel
theorem dX9_isNear_6 : decode cX9_isNear 6 = .ok (.iload_n 0, 1) := by decide +kernel
theorem dX9_isNear_7 : decode cX9_isNear 7 = .ok (.iload_n 1, 1) := by decide +kernel
theorem dX9_isNear_8 : decode cX9_isNear 8 = .ok (.if_icmp .gt 7, 3) := by decide +kernel
theorem dX9_isNear_11 : decode cX9_isNear 11 = .ok (.iconst 1, 1) := by decide +kernel
theorem dX9_isNear_12 : decode cX9_isNear 12 = .ok (.goto 4, 3) := by decide +kernel
theorem dX9_nearest_0 : decode cX9_nearest 0 = .ok (.iconst 2, 1) := by decide +kernel
theorem dX9_nearest_1 : decode cX9_nearest 1 = .ok (.iload_n 0, 1) := by decide +kernel
theorem dX9_nearest_2 : decode cX9_nearest 2 = .ok (.imul, 1) := by decide +kernel
theorem dX9_nearest_3 : decode cX9_nearest 3 = .ok (.iload_n 1, 1) := by decide +kernel
theorem dX9_nearest_4 : decode cX9_nearest 4 = .ok (.iadd, 1) := by decide +kernel
theorem dX9_nearest_5 : decode cX9_nearest 5 = .ok (.iconst 2, 1) := by decide +kernel
theorem dX9_nearest_6 : decode cX9_nearest 6 = .ok (.iload_n 1, 1) := by decide +kernel
theorem dX9_nearest_7 : decode cX9_nearest 7 = .ok (.imul, 1) := by decide +kernel
theorem dX9_nearest_8 : decode cX9_nearest 8 = .ok (.idiv, 1) := by decide +kernel
theorem dX9_nearest_9 : decode cX9_nearest 9 = .ok (.ireturn, 1) := by decide +kernel
theorem dX9_channel_0 : decode cX9_channel 0 = .ok (.iload_n 0, 1) := by decide +kernel
theorem dX9_channel_1 : decode cX9_channel 1 = .ok (.bipush 24, 2) := by decide +kernel
theorem dX9_channel_3 : decode cX9_channel 3 = .ok (.bipush 8, 2) := by decide +kernel
theorem dX9_channel_5 : decode cX9_channel 5 = .ok (.iload_n 1, 1) := by decide +kernel
theorem dX9_channel_6 : decode cX9_channel 6 = .ok (.imul, 1) := by decide +kernel
theorem dX9_channel_7 : decode cX9_channel 7 = .ok (.isub, 1) := by decide +kernel
theorem dX9_channel_8 : decode cX9_channel 8 = .ok (.ishr, 1) := by decide +kernel
theorem dX9_channel_9 : decode cX9_channel 9 = .ok (.sipush 255, 3) := by decide +kernel
theorem dX9_channel_12 : decode cX9_channel 12 = .ok (.iand, 1) := by decide +kernel
theorem dX9_channel_13 : decode cX9_channel 13 = .ok (.ireturn, 1) := by decide +kernel
theorem dX9_inkOf_0 : decode cX9_inkOf 0 = .ok (.iload_n 0, 1) := by decide +kernel
theorem dX9_inkOf_1 : decode cX9_inkOf 1 = .ok (.iconst 0, 1) := by decide +kernel
theorem dX9_inkOf_2 : decode cX9_inkOf 2 = .ok (.invokestatic 88, 3) := by decide +kernel
theorem dX9_inkOf_5 : decode cX9_inkOf 5 = .ok (.istore_n 1, 1) := by decide +kernel
theorem dX9_inkOf_6 : decode cX9_inkOf 6 = .ok (.iload_n 1, 1) := by decide +kernel
theorem dX9_inkOf_7 : decode cX9_inkOf 7 = .ok (.istore_n 2, 1) := by decide +kernel
theorem dX9_inkOf_8 : decode cX9_inkOf 8 = .ok (.iconst 1, 1) := by decide +kernel
theorem dX9_inkOf_9 : decode cX9_inkOf 9 = .ok (.istore_n 3, 1) := by decide +kernel
theorem dX9_inkOf_10 : decode cX9_inkOf 10 = .ok (.iload_n 3, 1) := by decide +kernel
theorem dX9_inkOf_11 : decode cX9_inkOf 11 = .ok (.iconst 4, 1) := by decide +kernel
theorem dX9_inkOf_12 : decode cX9_inkOf 12 = .ok (.if_icmp .ge 28, 3) := by decide +kernel
theorem dX9_inkOf_15 : decode cX9_inkOf 15 = .ok (.iload_n 2, 1) := by decide +kernel
theorem dX9_inkOf_16 : decode cX9_inkOf 16 = .ok (.bipush 8, 2) := by decide +kernel
theorem dX9_inkOf_18 : decode cX9_inkOf 18 = .ok (.ishl, 1) := by decide +kernel
theorem dX9_inkOf_19 : decode cX9_inkOf 19 = .ok (.iload_n 0, 1) := by decide +kernel
theorem dX9_inkOf_20 : decode cX9_inkOf 20 = .ok (.iload_n 3, 1) := by decide +kernel
theorem dX9_inkOf_21 : decode cX9_inkOf 21 = .ok (.invokestatic 88, 3) := by decide +kernel
theorem dX9_inkOf_24 : decode cX9_inkOf 24 = .ok (.iload_n 1, 1) := by decide +kernel
theorem dX9_inkOf_25 : decode cX9_inkOf 25 = .ok (.imul, 1) := by decide +kernel
theorem dX9_inkOf_26 : decode cX9_inkOf 26 = .ok (.sipush 255, 3) := by decide +kernel
theorem dX9_inkOf_29 : decode cX9_inkOf 29 = .ok (.invokestatic 92, 3) := by decide +kernel
theorem dX9_inkOf_32 : decode cX9_inkOf 32 = .ok (.ior, 1) := by decide +kernel
theorem dX9_inkOf_33 : decode cX9_inkOf 33 = .ok (.istore_n 2, 1) := by decide +kernel
theorem dX9_inkOf_34 : decode cX9_inkOf 34 = .ok (.iinc 3 1, 3) := by decide +kernel
theorem dX9_inkOf_37 : decode cX9_inkOf 37 = .ok (.goto (-27), 3) := by decide +kernel
theorem dX9_inkOf_40 : decode cX9_inkOf 40 = .ok (.iload_n 2, 1) := by decide +kernel
theorem dX9_inkOf_41 : decode cX9_inkOf 41 = .ok (.ireturn, 1) := by decide +kernel
theorem dX0_init_0 : decode cX0_init 0 = .ok (.aload_n 0, 1) := by decide +kernel
theorem dX0_init_1 : decode cX0_init 1 = .ok (.invokespecial 3, 3) := by decide +kernel
theorem dX0_init_4 : decode cX0_init 4 = .ok (.aload_n 0, 1) := by decide +kernel
theorem dX0_init_5 : decode cX0_init 5 = .ok (.iconst 0, 1) := by decide +kernel
theorem dX0_init_6 : decode cX0_init 6 = .ok (.putfield 9, 3) := by decide +kernel
theorem dX0_init_9 : decode cX0_init 9 = .ok (.aload_n 0, 1) := by decide +kernel
theorem dX0_init_10 : decode cX0_init 10 = .ok (.iconst 0, 1) := by decide +kernel
theorem dX0_init_11 : decode cX0_init 11 = .ok (.putfield 15, 3) := by decide +kernel
theorem dX0_init_14 : decode cX0_init 14 = .ok (.aload_n 0, 1) := by decide +kernel
theorem dX0_init_15 : decode cX0_init 15 = .ok (.bipush 63, 2) := by decide +kernel
theorem dX0_init_17 : decode cX0_init 17 = .ok (.putfield 18, 3) := by decide +kernel
theorem dX0_init_20 : decode cX0_init 20 = .ok (.aload_n 0, 1) := by decide +kernel
theorem dX0_init_21 : decode cX0_init 21 = .ok (.bipush 63, 2) := by decide +kernel
theorem dX0_init_23 : decode cX0_init 23 = .ok (.putfield 21, 3) := by decide +kernel
theorem dX0_init_26 : decode cX0_init 26 = .ok (.return_, 1) := by decide +kernel
theorem dX1_init_0 : decode cX1_init 0 = .ok (.aload_n 0, 1) := by decide +kernel
theorem dX1_init_1 : decode cX1_init 1 = .ok (.invokespecial 3, 3) := by decide +kernel
theorem dX1_init_4 : decode cX1_init 4 = .ok (.aload_n 0, 1) := by decide +kernel
theorem dX1_init_5 : decode cX1_init 5 = .ok (.new 9, 3) := by decide +kernel
theorem dX1_init_8 : decode cX1_init 8 = .ok (.dup, 1) := by decide +kernel
theorem dX1_init_9 : decode cX1_init 9 = .ok (.invokespecial 11, 3) := by decide +kernel
theorem dX1_init_12 : decode cX1_init 12 = .ok (.putfield 12, 3) := by decide +kernel
theorem dX1_init_15 : decode cX1_init 15 = .ok (.aload_n 0, 1) := by decide +kernel
theorem dX1_init_16 : decode cX1_init 16 = .ok (.iconst (-1), 1) := by decide +kernel
theorem dX1_init_17 : decode cX1_init 17 = .ok (.putfield 18, 3) := by decide +kernel
theorem dX1_init_20 : decode cX1_init 20 = .ok (.aload_n 0, 1) := by decide +kernel
theorem dX1_init_21 : decode cX1_init 21 = .ok (.iconst 3, 1) := by decide +kernel
theorem dX1_init_22 : decode cX1_init 22 = .ok (.putfield 22, 3) := by decide +kernel
theorem dX1_init_25 : decode cX1_init 25 = .ok (.aload_n 0, 1) := by decide +kernel
theorem dX1_init_26 : decode cX1_init 26 = .ok (.sipush 255, 3) := by decide +kernel
theorem dX1_init_29 : decode cX1_init 29 = .ok (.putfield 25, 3) := by decide +kernel
theorem dX1_init_32 : decode cX1_init 32 = .ok (.return_, 1) := by decide +kernel
theorem dX3_init_0 : decode cX3_init 0 = .ok (.aload_n 0, 1) := by decide +kernel
theorem dX3_init_1 : decode cX3_init 1 = .ok (.invokespecial 3, 3) := by decide +kernel
theorem dX3_init_4 : decode cX3_init 4 = .ok (.aload_n 0, 1) := by decide +kernel
theorem dX3_init_5 : decode cX3_init 5 = .ok (.bipush 48, 2) := by decide +kernel
theorem dX3_init_7 : decode cX3_init 7 = .ok (.newarray .int, 2) := by decide +kernel
theorem dX3_init_9 : decode cX3_init 9 = .ok (.putfield 9, 3) := by decide +kernel
theorem dX3_init_12 : decode cX3_init 12 = .ok (.aload_n 0, 1) := by decide +kernel
theorem dX3_init_13 : decode cX3_init 13 = .ok (.bipush 48, 2) := by decide +kernel
theorem dX3_init_15 : decode cX3_init 15 = .ok (.newarray .int, 2) := by decide +kernel
theorem dX3_init_17 : decode cX3_init 17 = .ok (.putfield 15, 3) := by decide +kernel
theorem dX3_init_20 : decode cX3_init 20 = .ok (.aload_n 0, 1) := by decide +kernel
theorem dX3_init_21 : decode cX3_init 21 = .ok (.bipush 48, 2) := by decide +kernel
theorem dX3_init_23 : decode cX3_init 23 = .ok (.newarray .int, 2) := by decide +kernel
theorem dX3_init_25 : decode cX3_init 25 = .ok (.putfield 18, 3) := by decide +kernel
theorem dX3_init_28 : decode cX3_init 28 = .ok (.aload_n 0, 1) := by decide +kernel
theorem dX3_init_29 : decode cX3_init 29 = .ok (.bipush 48, 2) := by decide +kernel
theorem dX3_init_31 : decode cX3_init 31 = .ok (.newarray .int, 2) := by decide +kernel
theorem dX3_init_33 : decode cX3_init 33 = .ok (.putfield 21, 3) := by decide +kernel
theorem dX3_init_36 : decode cX3_init 36 = .ok (.aload_n 0, 1) := by decide +kernel
theorem dX3_init_37 : decode cX3_init 37 = .ok (.iconst 0, 1) := by decide +kernel
theorem dX3_init_38 : decode cX3_init 38 = .ok (.putfield 24, 3) := by decide +kernel
theorem dX3_init_41 : decode cX3_init 41 = .ok (.aload_n 0, 1) := by decide +kernel
theorem dX3_init_42 : decode cX3_init 42 = .ok (.iconst 0, 1) := by decide +kernel
theorem dX3_init_43 : decode cX3_init 43 = .ok (.putfield 28, 3) := by decide +kernel
theorem dX3_init_46 : decode cX3_init 46 = .ok (.aload_n 0, 1) := by decide +kernel
theorem dX3_init_47 : decode cX3_init 47 = .ok (.iconst 0, 1) := by decide +kernel
theorem dX3_init_48 : decode cX3_init 48 = .ok (.putfield 31, 3) := by decide +kernel
theorem dX3_init_51 : decode cX3_init 51 = .ok (.return_, 1) := by decide +kernel
theorem dX7_init_0 : decode cX7_init 0 = .ok (.aload_n 0, 1) := by decide +kernel
theorem dX7_init_1 : decode cX7_init 1 = .ok (.invokespecial 3, 3) := by decide +kernel
theorem dX7_init_4 : decode cX7_init 4 = .ok (.aload_n 0, 1) := by decide +kernel
theorem dX7_init_5 : decode cX7_init 5 = .ok (.iconst 3, 1) := by decide +kernel
theorem dX7_init_6 : decode cX7_init 6 = .ok (.newarray .int, 2) := by decide +kernel
theorem dX7_init_8 : decode cX7_init 8 = .ok (.putfield 9, 3) := by decide +kernel
theorem dX7_init_11 : decode cX7_init 11 = .ok (.aload_n 0, 1) := by decide +kernel
theorem dX7_init_12 : decode cX7_init 12 = .ok (.iconst 3, 1) := by decide +kernel
theorem dX7_init_13 : decode cX7_init 13 = .ok (.newarray .int, 2) := by decide +kernel
theorem dX7_init_15 : decode cX7_init 15 = .ok (.putfield 15, 3) := by decide +kernel
theorem dX7_init_18 : decode cX7_init 18 = .ok (.aload_n 0, 1) := by decide +kernel
theorem dX7_init_19 : decode cX7_init 19 = .ok (.iconst 3, 1) := by decide +kernel
theorem dX7_init_20 : decode cX7_init 20 = .ok (.newarray .int, 2) := by decide +kernel
theorem dX7_init_22 : decode cX7_init 22 = .ok (.putfield 18, 3) := by decide +kernel
theorem dX7_init_25 : decode cX7_init 25 = .ok (.aload_n 0, 1) := by decide +kernel
theorem dX7_init_26 : decode cX7_init 26 = .ok (.new 21, 3) := by decide +kernel
theorem dX7_init_29 : decode cX7_init 29 = .ok (.dup, 1) := by decide +kernel
theorem dX7_init_30 : decode cX7_init 30 = .ok (.invokespecial 23, 3) := by decide +kernel
theorem dX7_init_33 : decode cX7_init 33 = .ok (.putfield 24, 3) := by decide +kernel
theorem dX7_init_36 : decode cX7_init 36 = .ok (.return_, 1) := by decide +kernel
theorem dX4_init_0 : decode cX4_init 0 = .ok (.aload_n 0, 1) := by decide +kernel
theorem dX4_init_1 : decode cX4_init 1 = .ok (.invokespecial 3, 3) := by decide +kernel
theorem dX4_init_4 : decode cX4_init 4 = .ok (.aload_n 0, 1) := by decide +kernel
theorem dX4_init_5 : decode cX4_init 5 = .ok (.sipush 256, 3) := by decide +kernel
theorem dX4_init_8 : decode cX4_init 8 = .ok (.newarray .int, 2) := by decide +kernel
theorem dX4_init_10 : decode cX4_init 10 = .ok (.putfield 9, 3) := by decide +kernel
theorem dX4_init_13 : decode cX4_init 13 = .ok (.aload_n 0, 1) := by decide +kernel
theorem dX4_init_14 : decode cX4_init 14 = .ok (.bipush 64, 2) := by decide +kernel
theorem dX4_init_16 : decode cX4_init 16 = .ok (.newarray .int, 2) := by decide +kernel
theorem dX4_init_18 : decode cX4_init 18 = .ok (.putfield 15, 3) := by decide +kernel
theorem dX4_init_21 : decode cX4_init 21 = .ok (.return_, 1) := by decide +kernel
theorem dX5_init_0 : decode cX5_init 0 = .ok (.aload_n 0, 1) := by decide +kernel
theorem dX5_init_1 : decode cX5_init 1 = .ok (.invokespecial 3, 3) := by decide +kernel
theorem dX5_init_4 : decode cX5_init 4 = .ok (.aload_n 0, 1) := by decide +kernel
theorem dX5_init_5 : decode cX5_init 5 = .ok (.sipush 4096, 3) := by decide +kernel
theorem dX5_init_8 : decode cX5_init 8 = .ok (.newarray .int, 2) := by decide +kernel
theorem dX5_init_10 : decode cX5_init 10 = .ok (.putfield 9, 3) := by decide +kernel
theorem dX5_init_13 : decode cX5_init 13 = .ok (.aload_n 0, 1) := by decide +kernel
theorem dX5_init_14 : decode cX5_init 14 = .ok (.iconst 0, 1) := by decide +kernel
theorem dX5_init_15 : decode cX5_init 15 = .ok (.putfield 15, 3) := by decide +kernel
theorem dX5_init_18 : decode cX5_init 18 = .ok (.aload_n 0, 1) := by decide +kernel
theorem dX5_init_19 : decode cX5_init 19 = .ok (.iconst 0, 1) := by decide +kernel
theorem dX5_init_20 : decode cX5_init 20 = .ok (.putfield 19, 3) := by decide +kernel
theorem dX5_init_23 : decode cX5_init 23 = .ok (.return_, 1) := by decide +kernel
theorem dX2_init_0 : decode cX2_init 0 = .ok (.aload_n 0, 1) := by decide +kernel
theorem dX2_init_1 : decode cX2_init 1 = .ok (.invokespecial 3, 3) := by decide +kernel
theorem dX2_init_4 : decode cX2_init 4 = .ok (.aload_n 0, 1) := by decide +kernel
theorem dX2_init_5 : decode cX2_init 5 = .ok (.iload_n 1, 1) := by decide +kernel
theorem dX2_init_6 : decode cX2_init 6 = .ok (.putfield 9, 3) := by decide +kernel
theorem dX2_init_9 : decode cX2_init 9 = .ok (.aload_n 0, 1) := by decide +kernel
theorem dX2_init_10 : decode cX2_init 10 = .ok (.iload_n 2, 1) := by decide +kernel
theorem dX2_init_11 : decode cX2_init 11 = .ok (.putfield 15, 3) := by decide +kernel
theorem dX2_init_14 : decode cX2_init 14 = .ok (.aload_n 0, 1) := by decide +kernel
theorem dX2_init_15 : decode cX2_init 15 = .ok (.iload_n 3, 1) := by decide +kernel
theorem dX2_init_16 : decode cX2_init 16 = .ok (.putfield 18, 3) := by decide +kernel
theorem dX2_init_19 : decode cX2_init 19 = .ok (.aload_n 0, 1) := by decide +kernel
theorem dX2_init_20 : decode cX2_init 20 = .ok (.iload 4, 2) := by decide +kernel
theorem dX2_init_22 : decode cX2_init 22 = .ok (.putfield 21, 3) := by decide +kernel
theorem dX2_init_25 : decode cX2_init 25 = .ok (.return_, 1) := by decide +kernel
theorem dX8_init_0 : decode cX8_init 0 = .ok (.aload_n 0, 1) := by decide +kernel
theorem dX8_init_1 : decode cX8_init 1 = .ok (.invokespecial 3, 3) := by decide +kernel
theorem dX8_init_4 : decode cX8_init 4 = .ok (.aload_n 0, 1) := by decide +kernel
theorem dX8_init_5 : decode cX8_init 5 = .ok (.iconst 4, 1) := by decide +kernel
theorem dX8_init_6 : decode cX8_init 6 = .ok (.anewarray 9, 3) := by decide +kernel
theorem dX8_init_9 : decode cX8_init 9 = .ok (.putfield 11, 3) := by decide +kernel
theorem dX8_init_12 : decode cX8_init 12 = .ok (.aload_n 0, 1) := by decide +kernel
theorem dX8_init_13 : decode cX8_init 13 = .ok (.new 15, 3) := by decide +kernel
theorem dX8_init_16 : decode cX8_init 16 = .ok (.dup, 1) := by decide +kernel
theorem dX8_init_17 : decode cX8_init 17 = .ok (.invokespecial 17, 3) := by decide +kernel
theorem dX8_init_20 : decode cX8_init 20 = .ok (.putfield 18, 3) := by decide +kernel
theorem dX8_init_23 : decode cX8_init 23 = .ok (.aload_n 0, 1) := by decide +kernel
theorem dX8_init_24 : decode cX8_init 24 = .ok (.new 22, 3) := by decide +kernel
theorem dX8_init_27 : decode cX8_init 27 = .ok (.dup, 1) := by decide +kernel
theorem dX8_init_28 : decode cX8_init 28 = .ok (.invokespecial 24, 3) := by decide +kernel
theorem dX8_init_31 : decode cX8_init 31 = .ok (.putfield 25, 3) := by decide +kernel
theorem dX8_init_34 : decode cX8_init 34 = .ok (.aload_n 0, 1) := by decide +kernel
theorem dX8_init_35 : decode cX8_init 35 = .ok (.new 29, 3) := by decide +kernel
theorem dX8_init_38 : decode cX8_init 38 = .ok (.dup, 1) := by decide +kernel
theorem dX8_init_39 : decode cX8_init 39 = .ok (.invokespecial 31, 3) := by decide +kernel
theorem dX8_init_42 : decode cX8_init 42 = .ok (.putfield 32, 3) := by decide +kernel
theorem dX8_init_45 : decode cX8_init 45 = .ok (.aload_n 0, 1) := by decide +kernel
theorem dX8_init_46 : decode cX8_init 46 = .ok (.new 36, 3) := by decide +kernel
theorem dX8_init_49 : decode cX8_init 49 = .ok (.dup, 1) := by decide +kernel
theorem dX8_init_50 : decode cX8_init 50 = .ok (.invokespecial 38, 3) := by decide +kernel
theorem dX8_init_53 : decode cX8_init 53 = .ok (.putfield 39, 3) := by decide +kernel
theorem dX8_init_56 : decode cX8_init 56 = .ok (.aload_n 0, 1) := by decide +kernel
theorem dX8_init_57 : decode cX8_init 57 = .ok (.new 43, 3) := by decide +kernel
theorem dX8_init_60 : decode cX8_init 60 = .ok (.dup, 1) := by decide +kernel
theorem dX8_init_61 : decode cX8_init 61 = .ok (.invokespecial 45, 3) := by decide +kernel
theorem dX8_init_64 : decode cX8_init 64 = .ok (.putfield 46, 3) := by decide +kernel
theorem dX8_init_67 : decode cX8_init 67 = .ok (.aload_n 0, 1) := by decide +kernel
theorem dX8_init_68 : decode cX8_init 68 = .ok (.ldc 50, 2) := by decide +kernel
theorem dX8_init_70 : decode cX8_init 70 = .ok (.putfield 51, 3) := by decide +kernel
theorem dX8_init_73 : decode cX8_init 73 = .ok (.aload_n 0, 1) := by decide +kernel
theorem dX8_init_74 : decode cX8_init 74 = .ok (.aconst_null, 1) := by decide +kernel
theorem dX8_init_75 : decode cX8_init 75 = .ok (.putfield 55, 3) := by decide +kernel
theorem dX8_init_78 : decode cX8_init 78 = .ok (.aload_n 0, 1) := by decide +kernel
theorem dX8_init_79 : decode cX8_init 79 = .ok (.aconst_null, 1) := by decide +kernel
theorem dX8_init_80 : decode cX8_init 80 = .ok (.putfield 59, 3) := by decide +kernel
theorem dX8_init_83 : decode cX8_init 83 = .ok (.return_, 1) := by decide +kernel
theorem dX9_init_0 : decode cX9_init 0 = .ok (.aload_n 0, 1) := by decide +kernel
theorem dX9_init_1 : decode cX9_init 1 = .ok (.invokespecial 1, 3) := by decide +kernel
theorem dX9_init_4 : decode cX9_init 4 = .ok (.aload_n 0, 1) := by decide +kernel
theorem dX9_init_5 : decode cX9_init 5 = .ok (.iconst 4, 1) := by decide +kernel
theorem dX9_init_6 : decode cX9_init 6 = .ok (.newarray .int, 2) := by decide +kernel
theorem dX9_init_8 : decode cX9_init 8 = .ok (.putfield 7, 3) := by decide +kernel
theorem dX9_init_11 : decode cX9_init 11 = .ok (.aload_n 0, 1) := by decide +kernel
theorem dX9_init_12 : decode cX9_init 12 = .ok (.iconst 4, 1) := by decide +kernel
theorem dX9_init_13 : decode cX9_init 13 = .ok (.newarray .int, 2) := by decide +kernel
theorem dX9_init_15 : decode cX9_init 15 = .ok (.putfield 13, 3) := by decide +kernel
theorem dX9_init_18 : decode cX9_init 18 = .ok (.aload_n 0, 1) := by decide +kernel
theorem dX9_init_19 : decode cX9_init 19 = .ok (.sipush 16384, 3) := by decide +kernel
theorem dX9_init_22 : decode cX9_init 22 = .ok (.newarray .int, 2) := by decide +kernel
theorem dX9_init_24 : decode cX9_init 24 = .ok (.putfield 16, 3) := by decide +kernel
theorem dX9_init_27 : decode cX9_init 27 = .ok (.aload_n 0, 1) := by decide +kernel
theorem dX9_init_28 : decode cX9_init 28 = .ok (.iconst (-1), 1) := by decide +kernel
theorem dX9_init_29 : decode cX9_init 29 = .ok (.putfield 19, 3) := by decide +kernel
theorem dX9_init_32 : decode cX9_init 32 = .ok (.aload_n 0, 1) := by decide +kernel
theorem dX9_init_33 : decode cX9_init 33 = .ok (.iconst 3, 1) := by decide +kernel
theorem dX9_init_34 : decode cX9_init 34 = .ok (.putfield 23, 3) := by decide +kernel
theorem dX9_init_37 : decode cX9_init 37 = .ok (.aload_n 0, 1) := by decide +kernel
theorem dX9_init_38 : decode cX9_init 38 = .ok (.sipush 255, 3) := by decide +kernel
theorem dX9_init_41 : decode cX9_init 41 = .ok (.putfield 26, 3) := by decide +kernel
theorem dX9_init_44 : decode cX9_init 44 = .ok (.aload_n 0, 1) := by decide +kernel
theorem dX9_init_45 : decode cX9_init 45 = .ok (.ldc 29, 2) := by decide +kernel
theorem dX9_init_47 : decode cX9_init 47 = .ok (.putfield 30, 3) := by decide +kernel
theorem dX9_init_50 : decode cX9_init 50 = .ok (.aload_n 0, 1) := by decide +kernel
theorem dX9_init_51 : decode cX9_init 51 = .ok (.sipush 4096, 3) := by decide +kernel
theorem dX9_init_54 : decode cX9_init 54 = .ok (.newarray .boolean, 2) := by decide +kernel
theorem dX9_init_56 : decode cX9_init 56 = .ok (.putfield 33, 3) := by decide +kernel
theorem dX9_init_59 : decode cX9_init 59 = .ok (.aload_n 0, 1) := by decide +kernel
theorem dX9_init_60 : decode cX9_init 60 = .ok (.sipush 4096, 3) := by decide +kernel
theorem dX9_init_63 : decode cX9_init 63 = .ok (.newarray .int, 2) := by decide +kernel
theorem dX9_init_65 : decode cX9_init 65 = .ok (.putfield 37, 3) := by decide +kernel
theorem dX9_init_68 : decode cX9_init 68 = .ok (.aload_n 0, 1) := by decide +kernel
theorem dX9_init_69 : decode cX9_init 69 = .ok (.sipush 4096, 3) := by decide +kernel
theorem dX9_init_72 : decode cX9_init 72 = .ok (.newarray .int, 2) := by decide +kernel
theorem dX9_init_74 : decode cX9_init 74 = .ok (.putfield 40, 3) := by decide +kernel
theorem dX9_init_77 : decode cX9_init 77 = .ok (.aload_n 0, 1) := by decide +kernel
theorem dX9_init_78 : decode cX9_init 78 = .ok (.bipush 48, 2) := by decide +kernel
theorem dX9_init_80 : decode cX9_init 80 = .ok (.newarray .int, 2) := by decide +kernel
theorem dX9_init_82 : decode cX9_init 82 = .ok (.putfield 43, 3) := by decide +kernel
theorem dX9_init_85 : decode cX9_init 85 = .ok (.aload_n 0, 1) := by decide +kernel
theorem dX9_init_86 : decode cX9_init 86 = .ok (.bipush 48, 2) := by decide +kernel
theorem dX9_init_88 : decode cX9_init 88 = .ok (.newarray .int, 2) := by decide +kernel
theorem dX9_init_90 : decode cX9_init 90 = .ok (.putfield 46, 3) := by decide +kernel
theorem dX9_init_93 : decode cX9_init 93 = .ok (.aload_n 0, 1) := by decide +kernel
theorem dX9_init_94 : decode cX9_init 94 = .ok (.bipush 48, 2) := by decide +kernel
theorem dX9_init_96 : decode cX9_init 96 = .ok (.newarray .boolean, 2) := by decide +kernel
theorem dX9_init_98 : decode cX9_init 98 = .ok (.putfield 49, 3) := by decide +kernel
theorem dX9_init_101 : decode cX9_init 101 = .ok (.aload_n 0, 1) := by decide +kernel
theorem dX9_init_102 : decode cX9_init 102 = .ok (.iconst 3, 1) := by decide +kernel
theorem dX9_init_103 : decode cX9_init 103 = .ok (.newarray .int, 2) := by decide +kernel
theorem dX9_init_105 : decode cX9_init 105 = .ok (.putfield 52, 3) := by decide +kernel
theorem dX9_init_108 : decode cX9_init 108 = .ok (.aload_n 0, 1) := by decide +kernel
theorem dX9_init_109 : decode cX9_init 109 = .ok (.iconst 3, 1) := by decide +kernel
theorem dX9_init_110 : decode cX9_init 110 = .ok (.newarray .int, 2) := by decide +kernel
theorem dX9_init_112 : decode cX9_init 112 = .ok (.putfield 55, 3) := by decide +kernel
theorem dX9_init_115 : decode cX9_init 115 = .ok (.aload_n 0, 1) := by decide +kernel
theorem dX9_init_116 : decode cX9_init 116 = .ok (.iconst 3, 1) := by decide +kernel
theorem dX9_init_117 : decode cX9_init 117 = .ok (.newarray .int, 2) := by decide +kernel
theorem dX9_init_119 : decode cX9_init 119 = .ok (.putfield 58, 3) := by decide +kernel
theorem dX9_init_122 : decode cX9_init 122 = .ok (.aload_n 0, 1) := by decide +kernel
theorem dX9_init_123 : decode cX9_init 123 = .ok (.sipush 4096, 3) := by decide +kernel
theorem dX9_init_126 : decode cX9_init 126 = .ok (.newarray .int, 2) := by decide +kernel
theorem dX9_init_128 : decode cX9_init 128 = .ok (.putfield 61, 3) := by decide +kernel
theorem dX9_init_131 : decode cX9_init 131 = .ok (.return_, 1) := by decide +kernel
theorem dJ7_fill_53178_5 : decode cJ7_fill_53178 5 = .ok (.iload_n 2, 1) := by decide +kernel
theorem dJ7_fill_53178_6 : decode cJ7_fill_53178 6 = .ok (.iload_n 3, 1) := by decide +kernel
theorem dJ7_fill_53178_7 : decode cJ7_fill_53178 7 = .ok (.if_icmp .ge 13, 3) := by decide +kernel
theorem dJ7_fill_53178_10 : decode cJ7_fill_53178 10 = .ok (.aload_n 0, 1) := by decide +kernel
theorem dJ7_fill_53178_11 : decode cJ7_fill_53178 11 = .ok (.iload_n 2, 1) := by decide +kernel
theorem dJ7_fill_53178_12 : decode cJ7_fill_53178 12 = .ok (.iload_n 1, 1) := by decide +kernel
theorem dJ7_fill_53178_13 : decode cJ7_fill_53178 13 = .ok (.iastore, 1) := by decide +kernel
theorem dJ7_fill_53178_14 : decode cJ7_fill_53178 14 = .ok (.iinc 2 1, 3) := by decide +kernel
theorem dJ7_fill_53178_17 : decode cJ7_fill_53178 17 = .ok (.goto (-12), 3) := by decide +kernel
theorem dJ7_fill_53178_0 : decode cJ7_fill_53178 0 = .ok (.iconst 0, 1) := by decide +kernel
theorem dJ7_fill_53178_1 : decode cJ7_fill_53178 1 = .ok (.istore_n 2, 1) := by decide +kernel
theorem dJ7_fill_53178_2 : decode cJ7_fill_53178 2 = .ok (.aload_n 0, 1) := by decide +kernel
theorem dJ7_fill_53178_3 : decode cJ7_fill_53178 3 = .ok (.arraylength, 1) := by decide +kernel
theorem dJ7_fill_53178_4 : decode cJ7_fill_53178 4 = .ok (.istore_n 3, 1) := by decide +kernel
theorem dJ7_fill_53178_20 : decode cJ7_fill_53178 20 = .ok (.return_, 1) := by decide +kernel
theorem dX9_sheet_50 : decode cX9_sheet 50 = .ok (.iload 4, 2) := by decide +kernel
theorem dX9_sheet_52 : decode cX9_sheet 52 = .ok (.sipush 4096, 3) := by decide +kernel
theorem dX9_sheet_55 : decode cX9_sheet 55 = .ok (.if_icmp .ge 23, 3) := by decide +kernel
theorem dX9_sheet_58 : decode cX9_sheet 58 = .ok (.aload_n 0, 1) := by decide +kernel
theorem dX9_sheet_59 : decode cX9_sheet 59 = .ok (.getfield 16, 3) := by decide +kernel
theorem dX9_sheet_62 : decode cX9_sheet 62 = .ok (.sipush 4096, 3) := by decide +kernel
theorem dX9_sheet_65 : decode cX9_sheet 65 = .ok (.iload_n 1, 1) := by decide +kernel
theorem dX9_sheet_66 : decode cX9_sheet 66 = .ok (.imul, 1) := by decide +kernel
theorem dX9_sheet_67 : decode cX9_sheet 67 = .ok (.iload 4, 2) := by decide +kernel
theorem dX9_sheet_69 : decode cX9_sheet 69 = .ok (.iadd, 1) := by decide +kernel
theorem dX9_sheet_70 : decode cX9_sheet 70 = .ok (.iconst 0, 1) := by decide +kernel
theorem dX9_sheet_71 : decode cX9_sheet 71 = .ok (.iastore, 1) := by decide +kernel
theorem dX9_sheet_72 : decode cX9_sheet 72 = .ok (.iinc 4 1, 3) := by decide +kernel
theorem dX9_sheet_75 : decode cX9_sheet 75 = .ok (.goto (-25), 3) := by decide +kernel
theorem dX9_sheet_0 : decode cX9_sheet 0 = .ok (.iload_n 1, 1) := by decide +kernel
theorem dX9_sheet_1 : decode cX9_sheet 1 = .ok (.ifCond .lt 30, 3) := by decide +kernel
theorem dX9_sheet_31 : decode cX9_sheet 31 = .ok (.iconst 0, 1) := by decide +kernel
theorem dX9_sheet_32 : decode cX9_sheet 32 = .ok (.ireturn, 1) := by decide +kernel
theorem dX9_sheet_4 : decode cX9_sheet 4 = .ok (.iload_n 1, 1) := by decide +kernel
theorem dX9_sheet_5 : decode cX9_sheet 5 = .ok (.iconst 3, 1) := by decide +kernel
theorem dX9_sheet_6 : decode cX9_sheet 6 = .ok (.if_icmp .gt 25, 3) := by decide +kernel
theorem dX9_sheet_9 : decode cX9_sheet 9 = .ok (.iload_n 2, 1) := by decide +kernel
theorem dX9_sheet_10 : decode cX9_sheet 10 = .ok (.iconst 1, 1) := by decide +kernel
theorem dX9_sheet_11 : decode cX9_sheet 11 = .ok (.if_icmp .lt 20, 3) := by decide +kernel
theorem dX9_sheet_14 : decode cX9_sheet 14 = .ok (.iload_n 2, 1) := by decide +kernel
theorem dX9_sheet_15 : decode cX9_sheet 15 = .ok (.bipush 64, 2) := by decide +kernel
theorem dX9_sheet_17 : decode cX9_sheet 17 = .ok (.if_icmp .gt 14, 3) := by decide +kernel
theorem dX9_sheet_20 : decode cX9_sheet 20 = .ok (.iload_n 3, 1) := by decide +kernel
theorem dX9_sheet_21 : decode cX9_sheet 21 = .ok (.iconst 1, 1) := by decide +kernel
theorem dX9_sheet_22 : decode cX9_sheet 22 = .ok (.if_icmp .lt 9, 3) := by decide +kernel
theorem dX9_sheet_25 : decode cX9_sheet 25 = .ok (.iload_n 3, 1) := by decide +kernel
theorem dX9_sheet_26 : decode cX9_sheet 26 = .ok (.bipush 64, 2) := by decide +kernel
theorem dX9_sheet_28 : decode cX9_sheet 28 = .ok (.if_icmp .le 5, 3) := by decide +kernel
theorem dX9_sheet_33 : decode cX9_sheet 33 = .ok (.aload_n 0, 1) := by decide +kernel
theorem dX9_sheet_34 : decode cX9_sheet 34 = .ok (.getfield 7, 3) := by decide +kernel
theorem dX9_sheet_37 : decode cX9_sheet 37 = .ok (.iload_n 1, 1) := by decide +kernel
theorem dX9_sheet_38 : decode cX9_sheet 38 = .ok (.iload_n 2, 1) := by decide +kernel
theorem dX9_sheet_39 : decode cX9_sheet 39 = .ok (.iastore, 1) := by decide +kernel
theorem dX9_sheet_40 : decode cX9_sheet 40 = .ok (.aload_n 0, 1) := by decide +kernel
theorem dX9_sheet_41 : decode cX9_sheet 41 = .ok (.getfield 13, 3) := by decide +kernel
theorem dX9_sheet_44 : decode cX9_sheet 44 = .ok (.iload_n 1, 1) := by decide +kernel
theorem dX9_sheet_45 : decode cX9_sheet 45 = .ok (.iload_n 3, 1) := by decide +kernel
theorem dX9_sheet_46 : decode cX9_sheet 46 = .ok (.iastore, 1) := by decide +kernel
theorem dX9_sheet_47 : decode cX9_sheet 47 = .ok (.iconst 0, 1) := by decide +kernel
theorem dX9_sheet_48 : decode cX9_sheet 48 = .ok (.istore 4, 2) := by decide +kernel
theorem dX9_sheet_78 : decode cX9_sheet 78 = .ok (.iconst 1, 1) := by decide +kernel
theorem dX9_sheet_79 : decode cX9_sheet 79 = .ok (.ireturn, 1) := by decide +kernel
theorem dX8_sheetAt_0 : decode cX8_sheetAt 0 = .ok (.iload_n 1, 1) := by decide +kernel
theorem dX8_sheetAt_1 : decode cX8_sheetAt 1 = .ok (.ifCond .lt 17, 3) := by decide +kernel
theorem dX8_sheetAt_18 : decode cX8_sheetAt 18 = .ok (.aconst_null, 1) := by decide +kernel
theorem dX8_sheetAt_19 : decode cX8_sheetAt 19 = .ok (.areturn, 1) := by decide +kernel
theorem dX8_sheetAt_4 : decode cX8_sheetAt 4 = .ok (.iload_n 1, 1) := by decide +kernel
theorem dX8_sheetAt_5 : decode cX8_sheetAt 5 = .ok (.iconst 4, 1) := by decide +kernel
theorem dX8_sheetAt_6 : decode cX8_sheetAt 6 = .ok (.if_icmp .ge 12, 3) := by decide +kernel
theorem dX8_sheetAt_9 : decode cX8_sheetAt 9 = .ok (.aload_n 0, 1) := by decide +kernel
theorem dX8_sheetAt_10 : decode cX8_sheetAt 10 = .ok (.getfield 11, 3) := by decide +kernel
theorem dX8_sheetAt_13 : decode cX8_sheetAt 13 = .ok (.iload_n 1, 1) := by decide +kernel
theorem dX8_sheetAt_14 : decode cX8_sheetAt 14 = .ok (.aaload, 1) := by decide +kernel
theorem dX8_sheetAt_15 : decode cX8_sheetAt 15 = .ok (.goto 4, 3) := by decide +kernel
theorem dX8_carry_0 : decode cX8_carry 0 = .ok (.aload_n 0, 1) := by decide +kernel
theorem dX8_carry_1 : decode cX8_carry 1 = .ok (.iload_n 1, 1) := by decide +kernel
theorem dX8_carry_2 : decode cX8_carry 2 = .ok (.invokevirtual 96, 3) := by decide +kernel
theorem dX8_carry_5 : decode cX8_carry 5 = .ok (.astore 5, 2) := by decide +kernel
theorem dX8_carry_7 : decode cX8_carry 7 = .ok (.aload_n 0, 1) := by decide +kernel
theorem dX8_carry_8 : decode cX8_carry 8 = .ok (.iload_n 3, 1) := by decide +kernel
theorem dX8_carry_9 : decode cX8_carry 9 = .ok (.invokevirtual 96, 3) := by decide +kernel
theorem dX8_carry_12 : decode cX8_carry 12 = .ok (.astore 6, 2) := by decide +kernel
theorem dX8_carry_14 : decode cX8_carry 14 = .ok (.aload 5, 2) := by decide +kernel
theorem dX8_carry_16 : decode cX8_carry 16 = .ok (.ifnull 23, 3) := by decide +kernel
theorem dX8_carry_39 : decode cX8_carry 39 = .ok (.iconst (-1), 1) := by decide +kernel
theorem dX8_carry_40 : decode cX8_carry 40 = .ok (.ireturn, 1) := by decide +kernel
theorem dX5_begin_0 : decode cX5_begin 0 = .ok (.aload_n 0, 1) := by decide +kernel
theorem dX5_begin_1 : decode cX5_begin 1 = .ok (.iload_n 1, 1) := by decide +kernel
theorem dX5_begin_2 : decode cX5_begin 2 = .ok (.putfield 15, 3) := by decide +kernel
theorem dX5_begin_5 : decode cX5_begin 5 = .ok (.aload_n 0, 1) := by decide +kernel
theorem dX5_begin_6 : decode cX5_begin 6 = .ok (.iload_n 2, 1) := by decide +kernel
theorem dX5_begin_7 : decode cX5_begin 7 = .ok (.putfield 19, 3) := by decide +kernel
theorem dX5_begin_10 : decode cX5_begin 10 = .ok (.aload_n 0, 1) := by decide +kernel
theorem dX5_begin_11 : decode cX5_begin 11 = .ok (.getfield 9, 3) := by decide +kernel
theorem dX5_begin_14 : decode cX5_begin 14 = .ok (.iconst 0, 1) := by decide +kernel
theorem dX5_begin_15 : decode cX5_begin 15 = .ok (.invokestatic 22, 3) := by decide +kernel
theorem dX5_begin_18 : decode cX5_begin 18 = .ok (.return_, 1) := by decide +kernel
theorem dX0_bound_0 : decode cX0_bound 0 = .ok (.aload_n 0, 1) := by decide +kernel
theorem dX0_bound_1 : decode cX0_bound 1 = .ok (.iload_n 1, 1) := by decide +kernel
theorem dX0_bound_2 : decode cX0_bound 2 = .ok (.putfield 9, 3) := by decide +kernel
theorem dX0_bound_5 : decode cX0_bound 5 = .ok (.aload_n 0, 1) := by decide +kernel
theorem dX0_bound_6 : decode cX0_bound 6 = .ok (.iload_n 2, 1) := by decide +kernel
theorem dX0_bound_7 : decode cX0_bound 7 = .ok (.putfield 15, 3) := by decide +kernel
theorem dX0_bound_10 : decode cX0_bound 10 = .ok (.aload_n 0, 1) := by decide +kernel
theorem dX0_bound_11 : decode cX0_bound 11 = .ok (.iload_n 3, 1) := by decide +kernel
theorem dX0_bound_12 : decode cX0_bound 12 = .ok (.putfield 18, 3) := by decide +kernel
theorem dX0_bound_15 : decode cX0_bound 15 = .ok (.aload_n 0, 1) := by decide +kernel
theorem dX0_bound_16 : decode cX0_bound 16 = .ok (.iload 4, 2) := by decide +kernel
theorem dX0_bound_18 : decode cX0_bound 18 = .ok (.putfield 21, 3) := by decide +kernel
theorem dX0_bound_21 : decode cX0_bound 21 = .ok (.return_, 1) := by decide +kernel
theorem dX3_empty_0 : decode cX3_empty 0 = .ok (.aload_n 0, 1) := by decide +kernel
theorem dX3_empty_1 : decode cX3_empty 1 = .ok (.iconst 0, 1) := by decide +kernel
theorem dX3_empty_2 : decode cX3_empty 2 = .ok (.putfield 24, 3) := by decide +kernel
theorem dX3_empty_5 : decode cX3_empty 5 = .ok (.return_, 1) := by decide +kernel
theorem dX3_add_0 : decode cX3_add 0 = .ok (.aload_n 0, 1) := by decide +kernel
theorem dX3_add_1 : decode cX3_add 1 = .ok (.getfield 24, 3) := by decide +kernel
theorem dX3_add_4 : decode cX3_add 4 = .ok (.bipush 48, 2) := by decide +kernel
theorem dX3_add_6 : decode cX3_add 6 = .ok (.if_icmp .lt 5, 3) := by decide +kernel
theorem dX3_add_11 : decode cX3_add 11 = .ok (.iload_n 3, 1) := by decide +kernel
theorem dX3_add_12 : decode cX3_add 12 = .ok (.ifCond .ne 10, 3) := by decide +kernel
theorem dX3_add_22 : decode cX3_add 22 = .ok (.aload_n 0, 1) := by decide +kernel
theorem dX3_add_23 : decode cX3_add 23 = .ok (.iload_n 1, 1) := by decide +kernel
theorem dX3_add_24 : decode cX3_add 24 = .ok (.putfield 28, 3) := by decide +kernel
theorem dX3_add_27 : decode cX3_add 27 = .ok (.aload_n 0, 1) := by decide +kernel
theorem dX3_add_28 : decode cX3_add 28 = .ok (.iload_n 2, 1) := by decide +kernel
theorem dX3_add_29 : decode cX3_add 29 = .ok (.putfield 31, 3) := by decide +kernel
theorem dX3_add_32 : decode cX3_add 32 = .ok (.goto 27, 3) := by decide +kernel
theorem dX3_add_59 : decode cX3_add 59 = .ok (.aload_n 0, 1) := by decide +kernel
theorem dX3_add_60 : decode cX3_add 60 = .ok (.getfield 9, 3) := by decide +kernel
theorem dX3_add_63 : decode cX3_add 63 = .ok (.aload_n 0, 1) := by decide +kernel
theorem dX3_add_64 : decode cX3_add 64 = .ok (.getfield 24, 3) := by decide +kernel
theorem dX3_add_67 : decode cX3_add 67 = .ok (.iload_n 1, 1) := by decide +kernel
theorem dX3_add_68 : decode cX3_add 68 = .ok (.iastore, 1) := by decide +kernel
theorem dX3_add_69 : decode cX3_add 69 = .ok (.aload_n 0, 1) := by decide +kernel
theorem dX3_add_70 : decode cX3_add 70 = .ok (.getfield 15, 3) := by decide +kernel
theorem dX3_add_73 : decode cX3_add 73 = .ok (.aload_n 0, 1) := by decide +kernel
theorem dX3_add_74 : decode cX3_add 74 = .ok (.getfield 24, 3) := by decide +kernel
theorem dX3_add_77 : decode cX3_add 77 = .ok (.iload_n 2, 1) := by decide +kernel
theorem dX3_add_78 : decode cX3_add 78 = .ok (.iastore, 1) := by decide +kernel
theorem dX3_add_79 : decode cX3_add 79 = .ok (.aload_n 0, 1) := by decide +kernel
theorem dX3_add_80 : decode cX3_add 80 = .ok (.getfield 18, 3) := by decide +kernel
theorem dX3_add_83 : decode cX3_add 83 = .ok (.aload_n 0, 1) := by decide +kernel
theorem dX3_add_84 : decode cX3_add 84 = .ok (.getfield 24, 3) := by decide +kernel
theorem dX3_add_87 : decode cX3_add 87 = .ok (.aload_n 0, 1) := by decide +kernel
theorem dX3_add_88 : decode cX3_add 88 = .ok (.getfield 28, 3) := by decide +kernel
theorem dX3_add_91 : decode cX3_add 91 = .ok (.iastore, 1) := by decide +kernel
theorem dX3_add_92 : decode cX3_add 92 = .ok (.aload_n 0, 1) := by decide +kernel
theorem dX3_add_93 : decode cX3_add 93 = .ok (.getfield 21, 3) := by decide +kernel
theorem dX3_add_96 : decode cX3_add 96 = .ok (.aload_n 0, 1) := by decide +kernel
theorem dX3_add_97 : decode cX3_add 97 = .ok (.getfield 24, 3) := by decide +kernel
theorem dX3_add_100 : decode cX3_add 100 = .ok (.aload_n 0, 1) := by decide +kernel
theorem dX3_add_101 : decode cX3_add 101 = .ok (.getfield 31, 3) := by decide +kernel
theorem dX3_add_104 : decode cX3_add 104 = .ok (.iastore, 1) := by decide +kernel
theorem dX3_add_105 : decode cX3_add 105 = .ok (.aload_n 0, 1) := by decide +kernel
theorem dX3_add_106 : decode cX3_add 106 = .ok (.dup, 1) := by decide +kernel
theorem dX3_add_107 : decode cX3_add 107 = .ok (.getfield 24, 3) := by decide +kernel
theorem dX3_add_110 : decode cX3_add 110 = .ok (.iconst 1, 1) := by decide +kernel
theorem dX3_add_111 : decode cX3_add 111 = .ok (.iadd, 1) := by decide +kernel
theorem dX3_add_112 : decode cX3_add 112 = .ok (.putfield 24, 3) := by decide +kernel
theorem dX3_add_115 : decode cX3_add 115 = .ok (.iconst 1, 1) := by decide +kernel
theorem dX3_add_116 : decode cX3_add 116 = .ok (.ireturn, 1) := by decide +kernel
theorem dX3_add_15 : decode cX3_add 15 = .ok (.aload_n 0, 1) := by decide +kernel
theorem dX3_add_16 : decode cX3_add 16 = .ok (.getfield 24, 3) := by decide +kernel
theorem dX3_add_19 : decode cX3_add 19 = .ok (.ifCond .ne 16, 3) := by decide +kernel
theorem dX3_windingAt_0 : decode cX3_windingAt 0 = .ok (.iconst 0, 1) := by decide +kernel
theorem dX3_windingAt_1 : decode cX3_windingAt 1 = .ok (.istore_n 3, 1) := by decide +kernel
theorem dX3_windingAt_2 : decode cX3_windingAt 2 = .ok (.iconst 0, 1) := by decide +kernel
theorem dX3_windingAt_3 : decode cX3_windingAt 3 = .ok (.istore 4, 2) := by decide +kernel
theorem dX3_windingAt_5 : decode cX3_windingAt 5 = .ok (.iload 4, 2) := by decide +kernel
theorem dX3_windingAt_7 : decode cX3_windingAt 7 = .ok (.aload_n 0, 1) := by decide +kernel
theorem dX3_windingAt_8 : decode cX3_windingAt 8 = .ok (.getfield 24, 3) := by decide +kernel
theorem dX3_windingAt_11 : decode cX3_windingAt 11 = .ok (.if_icmp .ge 39, 3) := by decide +kernel
theorem dX3_windingAt_50 : decode cX3_windingAt 50 = .ok (.iload_n 3, 1) := by decide +kernel
theorem dX3_windingAt_51 : decode cX3_windingAt 51 = .ok (.ireturn, 1) := by decide +kernel
theorem dX7_place_0 : decode cX7_place 0 = .ok (.iload_n 1, 1) := by decide +kernel
theorem dX7_place_1 : decode cX7_place 1 = .ok (.ifCond .lt 30, 3) := by decide +kernel
theorem dX7_place_31 : decode cX7_place 31 = .ok (.return_, 1) := by decide +kernel
theorem dX7_place_4 : decode cX7_place 4 = .ok (.iload_n 1, 1) := by decide +kernel
theorem dX7_place_5 : decode cX7_place 5 = .ok (.iconst 3, 1) := by decide +kernel
theorem dX7_place_6 : decode cX7_place 6 = .ok (.if_icmp .ge 25, 3) := by decide +kernel
theorem dX7_place_9 : decode cX7_place 9 = .ok (.aload_n 0, 1) := by decide +kernel
theorem dX7_place_10 : decode cX7_place 10 = .ok (.getfield 9, 3) := by decide +kernel
theorem dX7_place_13 : decode cX7_place 13 = .ok (.iload_n 1, 1) := by decide +kernel
theorem dX7_place_14 : decode cX7_place 14 = .ok (.iload_n 2, 1) := by decide +kernel
theorem dX7_place_15 : decode cX7_place 15 = .ok (.iastore, 1) := by decide +kernel
theorem dX7_place_16 : decode cX7_place 16 = .ok (.aload_n 0, 1) := by decide +kernel
theorem dX7_place_17 : decode cX7_place 17 = .ok (.getfield 15, 3) := by decide +kernel
theorem dX7_place_20 : decode cX7_place 20 = .ok (.iload_n 1, 1) := by decide +kernel
theorem dX7_place_21 : decode cX7_place 21 = .ok (.iload_n 3, 1) := by decide +kernel
theorem dX7_place_22 : decode cX7_place 22 = .ok (.iastore, 1) := by decide +kernel
theorem dX7_place_23 : decode cX7_place 23 = .ok (.aload_n 0, 1) := by decide +kernel
theorem dX7_place_24 : decode cX7_place 24 = .ok (.getfield 18, 3) := by decide +kernel
theorem dX7_place_27 : decode cX7_place 27 = .ok (.iload_n 1, 1) := by decide +kernel
theorem dX7_place_28 : decode cX7_place 28 = .ok (.iload 4, 2) := by decide +kernel
theorem dX7_place_30 : decode cX7_place 30 = .ok (.iastore, 1) := by decide +kernel
theorem dX8_sheet_0 : decode cX8_sheet 0 = .ok (.iload_n 1, 1) := by decide +kernel
theorem dX8_sheet_1 : decode cX8_sheet 1 = .ok (.ifCond .lt 22, 3) := by decide +kernel
theorem dX8_sheet_23 : decode cX8_sheet 23 = .ok (.iconst 0, 1) := by decide +kernel
theorem dX8_sheet_24 : decode cX8_sheet 24 = .ok (.ireturn, 1) := by decide +kernel
theorem dX8_sheet_4 : decode cX8_sheet 4 = .ok (.iload_n 1, 1) := by decide +kernel
theorem dX8_sheet_5 : decode cX8_sheet 5 = .ok (.iconst 4, 1) := by decide +kernel
theorem dX8_sheet_6 : decode cX8_sheet 6 = .ok (.if_icmp .ge 17, 3) := by decide +kernel
theorem dX8_sheet_9 : decode cX8_sheet 9 = .ok (.iload_n 2, 1) := by decide +kernel
theorem dX8_sheet_10 : decode cX8_sheet 10 = .ok (.invokestatic 63, 3) := by decide +kernel
theorem dX8_sheet_13 : decode cX8_sheet 13 = .ok (.ifCond .eq 10, 3) := by decide +kernel
theorem dX8_sheet_16 : decode cX8_sheet 16 = .ok (.iload_n 3, 1) := by decide +kernel
theorem dX8_sheet_17 : decode cX8_sheet 17 = .ok (.invokestatic 63, 3) := by decide +kernel
theorem dX8_sheet_20 : decode cX8_sheet 20 = .ok (.ifCond .ne 5, 3) := by decide +kernel
theorem dX8_sheet_25 : decode cX8_sheet 25 = .ok (.aload_n 0, 1) := by decide +kernel
theorem dX8_sheet_26 : decode cX8_sheet 26 = .ok (.getfield 11, 3) := by decide +kernel
theorem dX8_sheet_29 : decode cX8_sheet 29 = .ok (.iload_n 1, 1) := by decide +kernel
theorem dX8_sheet_30 : decode cX8_sheet 30 = .ok (.aaload, 1) := by decide +kernel
theorem dX8_sheet_31 : decode cX8_sheet 31 = .ok (.ifnonnull 16, 3) := by decide +kernel
theorem dX8_sheet_34 : decode cX8_sheet 34 = .ok (.aload_n 0, 1) := by decide +kernel
theorem dX8_sheet_35 : decode cX8_sheet 35 = .ok (.getfield 11, 3) := by decide +kernel
theorem dX8_sheet_38 : decode cX8_sheet 38 = .ok (.iload_n 1, 1) := by decide +kernel
theorem dX8_sheet_39 : decode cX8_sheet 39 = .ok (.new 9, 3) := by decide +kernel
theorem dX8_sheet_42 : decode cX8_sheet 42 = .ok (.dup, 1) := by decide +kernel
theorem dX8_sheet_43 : decode cX8_sheet 43 = .ok (.invokespecial 67, 3) := by decide +kernel
theorem dX8_sheet_46 : decode cX8_sheet 46 = .ok (.aastore, 1) := by decide +kernel
theorem dX8_sheet_47 : decode cX8_sheet 47 = .ok (.aload_n 0, 1) := by decide +kernel
theorem dX8_sheet_48 : decode cX8_sheet 48 = .ok (.getfield 11, 3) := by decide +kernel
theorem dX8_sheet_51 : decode cX8_sheet 51 = .ok (.iload_n 1, 1) := by decide +kernel
theorem dX8_sheet_52 : decode cX8_sheet 52 = .ok (.aaload, 1) := by decide +kernel
theorem dX8_sheet_53 : decode cX8_sheet 53 = .ok (.iload_n 2, 1) := by decide +kernel
theorem dX8_sheet_54 : decode cX8_sheet 54 = .ok (.iload_n 3, 1) := by decide +kernel
theorem dX8_sheet_55 : decode cX8_sheet 55 = .ok (.invokevirtual 68, 3) := by decide +kernel
theorem dX8_sheet_58 : decode cX8_sheet 58 = .ok (.iconst 1, 1) := by decide +kernel
theorem dX8_sheet_59 : decode cX8_sheet 59 = .ok (.ireturn, 1) := by decide +kernel
theorem dX8_ink_0 : decode cX8_ink 0 = .ok (.aload_n 0, 1) := by decide +kernel
theorem dX8_ink_1 : decode cX8_ink 1 = .ok (.getfield 18, 3) := by decide +kernel
theorem dX8_ink_4 : decode cX8_ink 4 = .ok (.iload_n 1, 1) := by decide +kernel
theorem dX8_ink_5 : decode cX8_ink 5 = .ok (.invokestatic 72, 3) := by decide +kernel
theorem dX8_ink_8 : decode cX8_ink 8 = .ok (.putfield 76, 3) := by decide +kernel
theorem dX8_ink_11 : decode cX8_ink 11 = .ok (.return_, 1) := by decide +kernel
theorem dX8_way_0 : decode cX8_way 0 = .ok (.iload_n 1, 1) := by decide +kernel
theorem dX8_way_1 : decode cX8_way 1 = .ok (.iconst 0, 1) := by decide +kernel
theorem dX8_way_2 : decode cX8_way 2 = .ok (.bipush 12, 2) := by decide +kernel
theorem dX8_way_4 : decode cX8_way 4 = .ok (.invokestatic 79, 3) := by decide +kernel
theorem dX8_way_7 : decode cX8_way 7 = .ok (.ifCond .eq 14, 3) := by decide +kernel
theorem dX8_way_21 : decode cX8_way 21 = .ok (.iconst 0, 1) := by decide +kernel
theorem dX8_way_22 : decode cX8_way 22 = .ok (.ireturn, 1) := by decide +kernel
theorem dX8_way_10 : decode cX8_way 10 = .ok (.iload_n 2, 1) := by decide +kernel
theorem dX8_way_11 : decode cX8_way 11 = .ok (.iconst 0, 1) := by decide +kernel
theorem dX8_way_12 : decode cX8_way 12 = .ok (.sipush 255, 3) := by decide +kernel
theorem dX8_way_15 : decode cX8_way 15 = .ok (.invokestatic 79, 3) := by decide +kernel
theorem dX8_way_18 : decode cX8_way 18 = .ok (.ifCond .ne 5, 3) := by decide +kernel
theorem dX8_way_23 : decode cX8_way 23 = .ok (.aload_n 0, 1) := by decide +kernel
theorem dX8_way_24 : decode cX8_way 24 = .ok (.getfield 18, 3) := by decide +kernel
theorem dX8_way_27 : decode cX8_way 27 = .ok (.iload_n 1, 1) := by decide +kernel
theorem dX8_way_28 : decode cX8_way 28 = .ok (.putfield 83, 3) := by decide +kernel
theorem dX8_way_31 : decode cX8_way 31 = .ok (.aload_n 0, 1) := by decide +kernel
theorem dX8_way_32 : decode cX8_way 32 = .ok (.getfield 18, 3) := by decide +kernel
theorem dX8_way_35 : decode cX8_way 35 = .ok (.iload_n 2, 1) := by decide +kernel
theorem dX8_way_36 : decode cX8_way 36 = .ok (.putfield 86, 3) := by decide +kernel
theorem dX8_way_39 : decode cX8_way 39 = .ok (.iconst 1, 1) := by decide +kernel
theorem dX8_way_40 : decode cX8_way 40 = .ok (.ireturn, 1) := by decide +kernel
theorem dX8_clip_0 : decode cX8_clip 0 = .ok (.aload_n 0, 1) := by decide +kernel
theorem dX8_clip_1 : decode cX8_clip 1 = .ok (.getfield 18, 3) := by decide +kernel
theorem dX8_clip_4 : decode cX8_clip 4 = .ok (.getfield 89, 3) := by decide +kernel
theorem dX8_clip_7 : decode cX8_clip 7 = .ok (.iload_n 1, 1) := by decide +kernel
theorem dX8_clip_8 : decode cX8_clip 8 = .ok (.iload_n 2, 1) := by decide +kernel
theorem dX8_clip_9 : decode cX8_clip 9 = .ok (.iload_n 3, 1) := by decide +kernel
theorem dX8_clip_10 : decode cX8_clip 10 = .ok (.iload 4, 2) := by decide +kernel
theorem dX8_clip_12 : decode cX8_clip 12 = .ok (.invokevirtual 92, 3) := by decide +kernel
theorem dX8_clip_15 : decode cX8_clip 15 = .ok (.return_, 1) := by decide +kernel
theorem dX8_dashes_0 : decode cX8_dashes 0 = .ok (.aload_n 0, 1) := by decide +kernel
theorem dX8_dashes_1 : decode cX8_dashes 1 = .ok (.iload_n 1, 1) := by decide +kernel
theorem dX8_dashes_2 : decode cX8_dashes 2 = .ok (.ldc 50, 2) := by decide +kernel
theorem dX8_dashes_4 : decode cX8_dashes 4 = .ok (.iand, 1) := by decide +kernel
theorem dX8_dashes_5 : decode cX8_dashes 5 = .ok (.putfield 51, 3) := by decide +kernel
theorem dX8_dashes_8 : decode cX8_dashes 8 = .ok (.return_, 1) := by decide +kernel
theorem dX8_line_0 : decode cX8_line 0 = .ok (.aload_n 0, 1) := by decide +kernel
theorem dX8_line_1 : decode cX8_line 1 = .ok (.iload_n 1, 1) := by decide +kernel
theorem dX8_line_2 : decode cX8_line 2 = .ok (.invokevirtual 96, 3) := by decide +kernel
theorem dX8_line_5 : decode cX8_line 5 = .ok (.astore 6, 2) := by decide +kernel
theorem dX8_line_7 : decode cX8_line 7 = .ok (.aload 6, 2) := by decide +kernel
theorem dX8_line_9 : decode cX8_line 9 = .ok (.ifnull 45, 3) := by decide +kernel
theorem dX8_line_54 : decode cX8_line 54 = .ok (.iconst (-1), 1) := by decide +kernel
theorem dX8_line_55 : decode cX8_line 55 = .ok (.ireturn, 1) := by decide +kernel
theorem dX8_circle_0 : decode cX8_circle 0 = .ok (.aload_n 0, 1) := by decide +kernel
theorem dX8_circle_1 : decode cX8_circle 1 = .ok (.iload_n 1, 1) := by decide +kernel
theorem dX8_circle_2 : decode cX8_circle 2 = .ok (.invokevirtual 96, 3) := by decide +kernel
theorem dX8_circle_5 : decode cX8_circle 5 = .ok (.astore 5, 2) := by decide +kernel
theorem dX8_circle_7 : decode cX8_circle 7 = .ok (.aload 5, 2) := by decide +kernel
theorem dX8_circle_9 : decode cX8_circle 9 = .ok (.ifnull 35, 3) := by decide +kernel
theorem dX8_circle_44 : decode cX8_circle 44 = .ok (.iconst (-1), 1) := by decide +kernel
theorem dX8_circle_45 : decode cX8_circle 45 = .ok (.ireturn, 1) := by decide +kernel
theorem dX8_fill_0 : decode cX8_fill 0 = .ok (.aload_n 0, 1) := by decide +kernel
theorem dX8_fill_1 : decode cX8_fill 1 = .ok (.iload_n 1, 1) := by decide +kernel
theorem dX8_fill_2 : decode cX8_fill 2 = .ok (.invokevirtual 96, 3) := by decide +kernel
theorem dX8_fill_5 : decode cX8_fill 5 = .ok (.astore 4, 2) := by decide +kernel
theorem dX8_fill_7 : decode cX8_fill 7 = .ok (.aload 4, 2) := by decide +kernel
theorem dX8_fill_9 : decode cX8_fill 9 = .ok (.ifnull 10, 3) := by decide +kernel
theorem dX8_fill_19 : decode cX8_fill 19 = .ok (.iconst (-1), 1) := by decide +kernel
theorem dX8_fill_20 : decode cX8_fill 20 = .ok (.ireturn, 1) := by decide +kernel
theorem dX8_shade_0 : decode cX8_shade 0 = .ok (.aload_n 0, 1) := by decide +kernel
theorem dX8_shade_1 : decode cX8_shade 1 = .ok (.iload_n 1, 1) := by decide +kernel
theorem dX8_shade_2 : decode cX8_shade 2 = .ok (.invokevirtual 96, 3) := by decide +kernel
theorem dX8_shade_5 : decode cX8_shade 5 = .ok (.astore_n 2, 1) := by decide +kernel
theorem dX8_shade_6 : decode cX8_shade 6 = .ok (.aload_n 2, 1) := by decide +kernel
theorem dX8_shade_7 : decode cX8_shade 7 = .ok (.ifnonnull 5, 3) := by decide +kernel
theorem dX8_shade_10 : decode cX8_shade 10 = .ok (.iconst (-1), 1) := by decide +kernel
theorem dX8_shade_11 : decode cX8_shade 11 = .ok (.ireturn, 1) := by decide +kernel
theorem dX8_flood_0 : decode cX8_flood 0 = .ok (.aload_n 0, 1) := by decide +kernel
theorem dX8_flood_1 : decode cX8_flood 1 = .ok (.iload_n 1, 1) := by decide +kernel
theorem dX8_flood_2 : decode cX8_flood 2 = .ok (.invokevirtual 96, 3) := by decide +kernel
theorem dX8_flood_5 : decode cX8_flood 5 = .ok (.astore 5, 2) := by decide +kernel
theorem dX8_flood_7 : decode cX8_flood 7 = .ok (.aload 5, 2) := by decide +kernel
theorem dX8_flood_9 : decode cX8_flood 9 = .ok (.ifnull 13, 3) := by decide +kernel
theorem dX8_flood_22 : decode cX8_flood 22 = .ok (.iconst (-1), 1) := by decide +kernel
theorem dX8_flood_23 : decode cX8_flood 23 = .ok (.ireturn, 1) := by decide +kernel
theorem dX8_copy_0 : decode cX8_copy 0 = .ok (.iload 4, 2) := by decide +kernel
theorem dX8_copy_2 : decode cX8_copy 2 = .ok (.iconst 0, 1) := by decide +kernel
theorem dX8_copy_3 : decode cX8_copy 3 = .ok (.bipush 64, 2) := by decide +kernel
theorem dX8_copy_5 : decode cX8_copy 5 = .ok (.invokestatic 79, 3) := by decide +kernel
theorem dX8_copy_8 : decode cX8_copy 8 = .ok (.ifCond .eq 14, 3) := by decide +kernel
theorem dX8_copy_22 : decode cX8_copy 22 = .ok (.iconst (-1), 1) := by decide +kernel
theorem dX8_copy_23 : decode cX8_copy 23 = .ok (.ireturn, 1) := by decide +kernel
theorem dX8_copy_11 : decode cX8_copy 11 = .ok (.iload 5, 2) := by decide +kernel
theorem dX8_copy_13 : decode cX8_copy 13 = .ok (.iconst 0, 1) := by decide +kernel
theorem dX8_copy_14 : decode cX8_copy 14 = .ok (.bipush 64, 2) := by decide +kernel
theorem dX8_copy_16 : decode cX8_copy 16 = .ok (.invokestatic 79, 3) := by decide +kernel
theorem dX8_copy_19 : decode cX8_copy 19 = .ok (.ifCond .ne 5, 3) := by decide +kernel
theorem dX8_copy_24 : decode cX8_copy 24 = .ok (.aload_n 0, 1) := by decide +kernel
theorem dX8_copy_25 : decode cX8_copy 25 = .ok (.iload_n 1, 1) := by decide +kernel
theorem dX8_copy_26 : decode cX8_copy 26 = .ok (.new 191, 3) := by decide +kernel
theorem dX8_copy_29 : decode cX8_copy 29 = .ok (.dup, 1) := by decide +kernel
theorem dX8_copy_30 : decode cX8_copy 30 = .ok (.iload_n 2, 1) := by decide +kernel
theorem dX8_copy_31 : decode cX8_copy 31 = .ok (.iload_n 3, 1) := by decide +kernel
theorem dX8_copy_32 : decode cX8_copy 32 = .ok (.iload 4, 2) := by decide +kernel
theorem dX8_copy_34 : decode cX8_copy 34 = .ok (.iload 5, 2) := by decide +kernel
theorem dX8_copy_36 : decode cX8_copy 36 = .ok (.invokespecial 193, 3) := by decide +kernel
theorem dX8_copy_39 : decode cX8_copy 39 = .ok (.iload 6, 2) := by decide +kernel
theorem dX8_copy_41 : decode cX8_copy 41 = .ok (.new 191, 3) := by decide +kernel
theorem dX8_copy_44 : decode cX8_copy 44 = .ok (.dup, 1) := by decide +kernel
theorem dX8_copy_45 : decode cX8_copy 45 = .ok (.iload 7, 2) := by decide +kernel
theorem dX8_copy_47 : decode cX8_copy 47 = .ok (.iload 8, 2) := by decide +kernel
theorem dX8_copy_49 : decode cX8_copy 49 = .ok (.iload 4, 2) := by decide +kernel
theorem dX8_copy_51 : decode cX8_copy 51 = .ok (.iload 5, 2) := by decide +kernel
theorem dX8_copy_53 : decode cX8_copy 53 = .ok (.invokespecial 193, 3) := by decide +kernel
theorem dX8_copy_56 : decode cX8_copy 56 = .ok (.invokevirtual 195, 3) := by decide +kernel
theorem dX8_copy_59 : decode cX8_copy 59 = .ok (.ireturn, 1) := by decide +kernel
theorem dX8_stretch_0 : decode cX8_stretch 0 = .ok (.iload 4, 2) := by decide +kernel
theorem dX8_stretch_2 : decode cX8_stretch 2 = .ok (.invokestatic 63, 3) := by decide +kernel
theorem dX8_stretch_5 : decode cX8_stretch 5 = .ok (.ifCond .eq 27, 3) := by decide +kernel
theorem dX8_stretch_32 : decode cX8_stretch 32 = .ok (.iconst (-1), 1) := by decide +kernel
theorem dX8_stretch_33 : decode cX8_stretch 33 = .ok (.ireturn, 1) := by decide +kernel
theorem dX8_stretch_8 : decode cX8_stretch 8 = .ok (.iload 5, 2) := by decide +kernel
theorem dX8_stretch_10 : decode cX8_stretch 10 = .ok (.invokestatic 63, 3) := by decide +kernel
theorem dX8_stretch_13 : decode cX8_stretch 13 = .ok (.ifCond .eq 19, 3) := by decide +kernel
theorem dX8_stretch_16 : decode cX8_stretch 16 = .ok (.iload 9, 2) := by decide +kernel
theorem dX8_stretch_18 : decode cX8_stretch 18 = .ok (.invokestatic 63, 3) := by decide +kernel
theorem dX8_stretch_21 : decode cX8_stretch 21 = .ok (.ifCond .eq 11, 3) := by decide +kernel
theorem dX8_stretch_24 : decode cX8_stretch 24 = .ok (.iload 10, 2) := by decide +kernel
theorem dX8_stretch_26 : decode cX8_stretch 26 = .ok (.invokestatic 63, 3) := by decide +kernel
theorem dX8_stretch_29 : decode cX8_stretch 29 = .ok (.ifCond .ne 5, 3) := by decide +kernel
theorem dX8_stretch_34 : decode cX8_stretch 34 = .ok (.aload_n 0, 1) := by decide +kernel
theorem dX8_stretch_35 : decode cX8_stretch 35 = .ok (.iload_n 1, 1) := by decide +kernel
theorem dX8_stretch_36 : decode cX8_stretch 36 = .ok (.new 191, 3) := by decide +kernel
theorem dX8_stretch_39 : decode cX8_stretch 39 = .ok (.dup, 1) := by decide +kernel
theorem dX8_stretch_40 : decode cX8_stretch 40 = .ok (.iload_n 2, 1) := by decide +kernel
theorem dX8_stretch_41 : decode cX8_stretch 41 = .ok (.iload_n 3, 1) := by decide +kernel
theorem dX8_stretch_42 : decode cX8_stretch 42 = .ok (.iload 4, 2) := by decide +kernel
theorem dX8_stretch_44 : decode cX8_stretch 44 = .ok (.iload 5, 2) := by decide +kernel
theorem dX8_stretch_46 : decode cX8_stretch 46 = .ok (.invokespecial 193, 3) := by decide +kernel
theorem dX8_stretch_49 : decode cX8_stretch 49 = .ok (.iload 6, 2) := by decide +kernel
theorem dX8_stretch_51 : decode cX8_stretch 51 = .ok (.new 191, 3) := by decide +kernel
theorem dX8_stretch_54 : decode cX8_stretch 54 = .ok (.dup, 1) := by decide +kernel
theorem dX8_stretch_55 : decode cX8_stretch 55 = .ok (.iload 7, 2) := by decide +kernel
theorem dX8_stretch_57 : decode cX8_stretch 57 = .ok (.iload 8, 2) := by decide +kernel
theorem dX8_stretch_59 : decode cX8_stretch 59 = .ok (.iload 9, 2) := by decide +kernel
theorem dX8_stretch_61 : decode cX8_stretch 61 = .ok (.iload 10, 2) := by decide +kernel
theorem dX8_stretch_63 : decode cX8_stretch 63 = .ok (.invokespecial 193, 3) := by decide +kernel
theorem dX8_stretch_66 : decode cX8_stretch 66 = .ok (.invokevirtual 195, 3) := by decide +kernel
theorem dX8_stretch_69 : decode cX8_stretch 69 = .ok (.ireturn, 1) := by decide +kernel
theorem dX8_dot_0 : decode cX8_dot 0 = .ok (.aload_n 0, 1) := by decide +kernel
theorem dX8_dot_1 : decode cX8_dot 1 = .ok (.iload_n 1, 1) := by decide +kernel
theorem dX8_dot_2 : decode cX8_dot 2 = .ok (.invokevirtual 96, 3) := by decide +kernel
theorem dX8_dot_5 : decode cX8_dot 5 = .ok (.astore 4, 2) := by decide +kernel
theorem dX8_dot_7 : decode cX8_dot 7 = .ok (.aload 4, 2) := by decide +kernel
theorem dX8_dot_9 : decode cX8_dot 9 = .ok (.ifnonnull 7, 3) := by decide +kernel
theorem dX8_dot_12 : decode cX8_dot 12 = .ok (.iconst 0, 1) := by decide +kernel
theorem dX8_dot_13 : decode cX8_dot 13 = .ok (.goto 10, 3) := by decide +kernel
theorem dX8_dot_23 : decode cX8_dot 23 = .ok (.ireturn, 1) := by decide +kernel
theorem dX8_count_0 : decode cX8_count 0 = .ok (.aload_n 0, 1) := by decide +kernel
theorem dX8_count_1 : decode cX8_count 1 = .ok (.iload_n 1, 1) := by decide +kernel
theorem dX8_count_2 : decode cX8_count 2 = .ok (.invokevirtual 96, 3) := by decide +kernel
theorem dX8_count_5 : decode cX8_count 5 = .ok (.astore_n 3, 1) := by decide +kernel
theorem dX8_count_6 : decode cX8_count 6 = .ok (.aload_n 3, 1) := by decide +kernel
theorem dX8_count_7 : decode cX8_count 7 = .ok (.ifnonnull 5, 3) := by decide +kernel
theorem dX8_count_10 : decode cX8_count 10 = .ok (.iconst (-1), 1) := by decide +kernel
theorem dX8_count_11 : decode cX8_count 11 = .ok (.ireturn, 1) := by decide +kernel
theorem dX8_region_0 : decode cX8_region 0 = .ok (.aload_n 0, 1) := by decide +kernel
theorem dX8_region_1 : decode cX8_region 1 = .ok (.iload_n 1, 1) := by decide +kernel
theorem dX8_region_2 : decode cX8_region 2 = .ok (.invokevirtual 96, 3) := by decide +kernel
theorem dX8_region_5 : decode cX8_region 5 = .ok (.astore 5, 2) := by decide +kernel
theorem dX8_region_7 : decode cX8_region 7 = .ok (.aload 5, 2) := by decide +kernel
theorem dX8_region_9 : decode cX8_region 9 = .ok (.ifnull 13, 3) := by decide +kernel
theorem dX8_region_22 : decode cX8_region 22 = .ok (.iconst (-1), 1) := by decide +kernel
theorem dX8_region_23 : decode cX8_region 23 = .ok (.ireturn, 1) := by decide +kernel
theorem dX8_differ_0 : decode cX8_differ 0 = .ok (.aload_n 0, 1) := by decide +kernel
theorem dX8_differ_1 : decode cX8_differ 1 = .ok (.iload_n 1, 1) := by decide +kernel
theorem dX8_differ_2 : decode cX8_differ 2 = .ok (.invokevirtual 96, 3) := by decide +kernel
theorem dX8_differ_5 : decode cX8_differ 5 = .ok (.astore_n 3, 1) := by decide +kernel
theorem dX8_differ_6 : decode cX8_differ 6 = .ok (.aload_n 0, 1) := by decide +kernel
theorem dX8_differ_7 : decode cX8_differ 7 = .ok (.iload_n 2, 1) := by decide +kernel
theorem dX8_differ_8 : decode cX8_differ 8 = .ok (.invokevirtual 96, 3) := by decide +kernel
theorem dX8_differ_11 : decode cX8_differ 11 = .ok (.astore 4, 2) := by decide +kernel
theorem dX8_differ_13 : decode cX8_differ 13 = .ok (.aload_n 3, 1) := by decide +kernel
theorem dX8_differ_14 : decode cX8_differ 14 = .ok (.ifnull 32, 3) := by decide +kernel
theorem dX8_differ_46 : decode cX8_differ 46 = .ok (.iconst (-1), 1) := by decide +kernel
theorem dX8_differ_47 : decode cX8_differ 47 = .ok (.ireturn, 1) := by decide +kernel
theorem dX8_look_0 : decode cX8_look 0 = .ok (.aload_n 0, 1) := by decide +kernel
theorem dX8_look_1 : decode cX8_look 1 = .ok (.iload_n 1, 1) := by decide +kernel
theorem dX8_look_2 : decode cX8_look 2 = .ok (.invokevirtual 96, 3) := by decide +kernel
theorem dX8_look_5 : decode cX8_look 5 = .ok (.astore_n 3, 1) := by decide +kernel
theorem dX8_look_6 : decode cX8_look 6 = .ok (.aload_n 3, 1) := by decide +kernel
theorem dX8_look_7 : decode cX8_look 7 = .ok (.ifnonnull 5, 3) := by decide +kernel
theorem dX8_look_10 : decode cX8_look 10 = .ok (.iconst (-1), 1) := by decide +kernel
theorem dX8_look_11 : decode cX8_look 11 = .ok (.ireturn, 1) := by decide +kernel
theorem dX8_point_0 : decode cX8_point 0 = .ok (.iload_n 1, 1) := by decide +kernel
theorem dX8_point_1 : decode cX8_point 1 = .ok (.sipush 4096, 3) := by decide +kernel
theorem dX8_point_4 : decode cX8_point 4 = .ok (.invokestatic 100, 3) := by decide +kernel
theorem dX8_point_7 : decode cX8_point 7 = .ok (.ifCond .eq 13, 3) := by decide +kernel
theorem dX8_point_20 : decode cX8_point 20 = .ok (.iconst (-1), 1) := by decide +kernel
theorem dX8_point_21 : decode cX8_point 21 = .ok (.ireturn, 1) := by decide +kernel
theorem dX8_point_10 : decode cX8_point 10 = .ok (.iload_n 2, 1) := by decide +kernel
theorem dX8_point_11 : decode cX8_point 11 = .ok (.sipush 4096, 3) := by decide +kernel
theorem dX8_point_14 : decode cX8_point 14 = .ok (.invokestatic 100, 3) := by decide +kernel
theorem dX8_point_17 : decode cX8_point 17 = .ok (.ifCond .ne 5, 3) := by decide +kernel
theorem dX8_point_22 : decode cX8_point 22 = .ok (.aload_n 0, 1) := by decide +kernel
theorem dX8_point_23 : decode cX8_point 23 = .ok (.getfield 32, 3) := by decide +kernel
theorem dX8_point_26 : decode cX8_point 26 = .ok (.iconst 2, 1) := by decide +kernel
theorem dX8_point_27 : decode cX8_point 27 = .ok (.iload_n 1, 1) := by decide +kernel
theorem dX8_point_28 : decode cX8_point 28 = .ok (.imul, 1) := by decide +kernel
theorem dX8_point_29 : decode cX8_point 29 = .ok (.iconst 2, 1) := by decide +kernel
theorem dX8_point_30 : decode cX8_point 30 = .ok (.iload_n 2, 1) := by decide +kernel
theorem dX8_point_31 : decode cX8_point 31 = .ok (.imul, 1) := by decide +kernel
theorem dX8_point_32 : decode cX8_point 32 = .ok (.iload_n 3, 1) := by decide +kernel
theorem dX8_point_33 : decode cX8_point 33 = .ok (.invokevirtual 132, 3) := by decide +kernel
theorem dX8_point_36 : decode cX8_point 36 = .ok (.ifCond .eq 13, 3) := by decide +kernel
theorem dX8_point_39 : decode cX8_point 39 = .ok (.aload_n 0, 1) := by decide +kernel
theorem dX8_point_40 : decode cX8_point 40 = .ok (.getfield 32, 3) := by decide +kernel
theorem dX8_point_43 : decode cX8_point 43 = .ok (.getfield 136, 3) := by decide +kernel
theorem dX8_point_46 : decode cX8_point 46 = .ok (.goto 4, 3) := by decide +kernel
theorem dX8_point_50 : decode cX8_point 50 = .ok (.ireturn, 1) := by decide +kernel
theorem dX8_clear_0 : decode cX8_clear 0 = .ok (.aload_n 0, 1) := by decide +kernel
theorem dX8_clear_1 : decode cX8_clear 1 = .ok (.getfield 32, 3) := by decide +kernel
theorem dX8_clear_4 : decode cX8_clear 4 = .ok (.invokevirtual 139, 3) := by decide +kernel
theorem dX8_clear_7 : decode cX8_clear 7 = .ok (.return_, 1) := by decide +kernel
theorem dX8_inside_0 : decode cX8_inside 0 = .ok (.iload_n 3, 1) := by decide +kernel
theorem dX8_inside_1 : decode cX8_inside 1 = .ok (.invokestatic 142, 3) := by decide +kernel
theorem dX8_inside_4 : decode cX8_inside 4 = .ok (.ifCond .ne 5, 3) := by decide +kernel
theorem dX8_inside_9 : decode cX8_inside 9 = .ok (.aload_n 0, 1) := by decide +kernel
theorem dX8_inside_10 : decode cX8_inside 10 = .ok (.getfield 32, 3) := by decide +kernel
theorem dX8_inside_13 : decode cX8_inside 13 = .ok (.iload_n 1, 1) := by decide +kernel
theorem dX8_inside_14 : decode cX8_inside 14 = .ok (.iload_n 2, 1) := by decide +kernel
theorem dX8_inside_15 : decode cX8_inside 15 = .ok (.invokevirtual 209, 3) := by decide +kernel
theorem dX8_inside_18 : decode cX8_inside 18 = .ok (.iload_n 3, 1) := by decide +kernel
theorem dX8_inside_19 : decode cX8_inside 19 = .ok (.invokestatic 212, 3) := by decide +kernel
theorem dX8_inside_22 : decode cX8_inside 22 = .ok (.ifCond .eq 7, 3) := by decide +kernel
theorem dX8_inside_29 : decode cX8_inside 29 = .ok (.iconst 0, 1) := by decide +kernel
theorem dX8_inside_30 : decode cX8_inside 30 = .ok (.ireturn, 1) := by decide +kernel
theorem dX8_inside_7 : decode cX8_inside 7 = .ok (.iconst (-1), 1) := by decide +kernel
theorem dX8_inside_8 : decode cX8_inside 8 = .ok (.ireturn, 1) := by decide +kernel
theorem dX8_corner_0 : decode cX8_corner 0 = .ok (.iload_n 1, 1) := by decide +kernel
theorem dX8_corner_1 : decode cX8_corner 1 = .ok (.ifCond .lt 28, 3) := by decide +kernel
theorem dX8_corner_29 : decode cX8_corner 29 = .ok (.iconst 0, 1) := by decide +kernel
theorem dX8_corner_30 : decode cX8_corner 30 = .ok (.ireturn, 1) := by decide +kernel
theorem dX8_corner_4 : decode cX8_corner 4 = .ok (.iload_n 1, 1) := by decide +kernel
theorem dX8_corner_5 : decode cX8_corner 5 = .ok (.iconst 3, 1) := by decide +kernel
theorem dX8_corner_6 : decode cX8_corner 6 = .ok (.if_icmp .ge 23, 3) := by decide +kernel
theorem dX8_corner_9 : decode cX8_corner 9 = .ok (.iload_n 2, 1) := by decide +kernel
theorem dX8_corner_10 : decode cX8_corner 10 = .ok (.sipush 200, 3) := by decide +kernel
theorem dX8_corner_13 : decode cX8_corner 13 = .ok (.invokestatic 100, 3) := by decide +kernel
theorem dX8_corner_16 : decode cX8_corner 16 = .ok (.ifCond .eq 13, 3) := by decide +kernel
theorem dX8_corner_19 : decode cX8_corner 19 = .ok (.iload_n 3, 1) := by decide +kernel
theorem dX8_corner_20 : decode cX8_corner 20 = .ok (.sipush 200, 3) := by decide +kernel
theorem dX8_corner_23 : decode cX8_corner 23 = .ok (.invokestatic 100, 3) := by decide +kernel
theorem dX8_corner_26 : decode cX8_corner 26 = .ok (.ifCond .ne 5, 3) := by decide +kernel
theorem dX8_corner_31 : decode cX8_corner 31 = .ok (.aload_n 0, 1) := by decide +kernel
theorem dX8_corner_32 : decode cX8_corner 32 = .ok (.getfield 39, 3) := by decide +kernel
theorem dX8_corner_35 : decode cX8_corner 35 = .ok (.iload_n 1, 1) := by decide +kernel
theorem dX8_corner_36 : decode cX8_corner 36 = .ok (.iload_n 2, 1) := by decide +kernel
theorem dX8_corner_37 : decode cX8_corner 37 = .ok (.iload_n 3, 1) := by decide +kernel
theorem dX8_corner_38 : decode cX8_corner 38 = .ok (.iload 4, 2) := by decide +kernel
theorem dX8_corner_40 : decode cX8_corner 40 = .ok (.invokestatic 72, 3) := by decide +kernel
theorem dX8_corner_43 : decode cX8_corner 43 = .ok (.invokevirtual 161, 3) := by decide +kernel
theorem dX8_corner_46 : decode cX8_corner 46 = .ok (.iconst 1, 1) := by decide +kernel
theorem dX8_corner_47 : decode cX8_corner 47 = .ok (.ireturn, 1) := by decide +kernel
theorem dX9_isSheet_0 : decode cX9_isSheet 0 = .ok (.iload_n 1, 1) := by decide +kernel
theorem dX9_isSheet_1 : decode cX9_isSheet 1 = .ok (.ifCond .lt 21, 3) := by decide +kernel
theorem dX9_isSheet_22 : decode cX9_isSheet 22 = .ok (.iconst 0, 1) := by decide +kernel
theorem dX9_isSheet_23 : decode cX9_isSheet 23 = .ok (.ireturn, 1) := by decide +kernel
theorem dX9_isSheet_4 : decode cX9_isSheet 4 = .ok (.iload_n 1, 1) := by decide +kernel
theorem dX9_isSheet_5 : decode cX9_isSheet 5 = .ok (.iconst 4, 1) := by decide +kernel
theorem dX9_isSheet_6 : decode cX9_isSheet 6 = .ok (.if_icmp .ge 16, 3) := by decide +kernel
theorem dX9_isSheet_9 : decode cX9_isSheet 9 = .ok (.aload_n 0, 1) := by decide +kernel
theorem dX9_isSheet_10 : decode cX9_isSheet 10 = .ok (.getfield 7, 3) := by decide +kernel
theorem dX9_isSheet_13 : decode cX9_isSheet 13 = .ok (.iload_n 1, 1) := by decide +kernel
theorem dX9_isSheet_14 : decode cX9_isSheet 14 = .ok (.iaload, 1) := by decide +kernel
theorem dX9_isSheet_15 : decode cX9_isSheet 15 = .ok (.ifCond .le 7, 3) := by decide +kernel
theorem dX9_ink_0 : decode cX9_ink 0 = .ok (.aload_n 0, 1) := by decide +kernel
theorem dX9_ink_1 : decode cX9_ink 1 = .ok (.iload_n 1, 1) := by decide +kernel
theorem dX9_ink_2 : decode cX9_ink 2 = .ok (.invokestatic 108, 3) := by decide +kernel
theorem dX9_ink_5 : decode cX9_ink 5 = .ok (.putfield 19, 3) := by decide +kernel
theorem dX9_ink_8 : decode cX9_ink 8 = .ok (.return_, 1) := by decide +kernel
theorem dX9_way_0 : decode cX9_way 0 = .ok (.iload_n 1, 1) := by decide +kernel
theorem dX9_way_1 : decode cX9_way 1 = .ok (.ifCond .lt 20, 3) := by decide +kernel
theorem dX9_way_21 : decode cX9_way 21 = .ok (.iconst 0, 1) := by decide +kernel
theorem dX9_way_22 : decode cX9_way 22 = .ok (.ireturn, 1) := by decide +kernel
theorem dX9_way_4 : decode cX9_way 4 = .ok (.iload_n 1, 1) := by decide +kernel
theorem dX9_way_5 : decode cX9_way 5 = .ok (.bipush 12, 2) := by decide +kernel
theorem dX9_way_7 : decode cX9_way 7 = .ok (.if_icmp .gt 14, 3) := by decide +kernel
theorem dX9_way_10 : decode cX9_way 10 = .ok (.iload_n 2, 1) := by decide +kernel
theorem dX9_way_11 : decode cX9_way 11 = .ok (.ifCond .lt 10, 3) := by decide +kernel
theorem dX9_way_14 : decode cX9_way 14 = .ok (.iload_n 2, 1) := by decide +kernel
theorem dX9_way_15 : decode cX9_way 15 = .ok (.sipush 255, 3) := by decide +kernel
theorem dX9_way_18 : decode cX9_way 18 = .ok (.if_icmp .le 5, 3) := by decide +kernel
theorem dX9_way_23 : decode cX9_way 23 = .ok (.aload_n 0, 1) := by decide +kernel
theorem dX9_way_24 : decode cX9_way 24 = .ok (.iload_n 1, 1) := by decide +kernel
theorem dX9_way_25 : decode cX9_way 25 = .ok (.putfield 23, 3) := by decide +kernel
theorem dX9_way_28 : decode cX9_way 28 = .ok (.aload_n 0, 1) := by decide +kernel
theorem dX9_way_29 : decode cX9_way 29 = .ok (.iload_n 2, 1) := by decide +kernel
theorem dX9_way_30 : decode cX9_way 30 = .ok (.putfield 26, 3) := by decide +kernel
theorem dX9_way_33 : decode cX9_way 33 = .ok (.iconst 1, 1) := by decide +kernel
theorem dX9_way_34 : decode cX9_way 34 = .ok (.ireturn, 1) := by decide +kernel
theorem dX9_clip_0 : decode cX9_clip 0 = .ok (.aload_n 0, 1) := by decide +kernel
theorem dX9_clip_1 : decode cX9_clip 1 = .ok (.iconst 1, 1) := by decide +kernel
theorem dX9_clip_2 : decode cX9_clip 2 = .ok (.putfield 64, 3) := by decide +kernel
theorem dX9_clip_5 : decode cX9_clip 5 = .ok (.aload_n 0, 1) := by decide +kernel
theorem dX9_clip_6 : decode cX9_clip 6 = .ok (.iload_n 1, 1) := by decide +kernel
theorem dX9_clip_7 : decode cX9_clip 7 = .ok (.putfield 68, 3) := by decide +kernel
theorem dX9_clip_10 : decode cX9_clip 10 = .ok (.aload_n 0, 1) := by decide +kernel
theorem dX9_clip_11 : decode cX9_clip 11 = .ok (.iload_n 3, 1) := by decide +kernel
theorem dX9_clip_12 : decode cX9_clip 12 = .ok (.putfield 71, 3) := by decide +kernel
theorem dX9_clip_15 : decode cX9_clip 15 = .ok (.aload_n 0, 1) := by decide +kernel
theorem dX9_clip_16 : decode cX9_clip 16 = .ok (.iload_n 2, 1) := by decide +kernel
theorem dX9_clip_17 : decode cX9_clip 17 = .ok (.putfield 74, 3) := by decide +kernel
theorem dX9_clip_20 : decode cX9_clip 20 = .ok (.aload_n 0, 1) := by decide +kernel
theorem dX9_clip_21 : decode cX9_clip 21 = .ok (.iload 4, 2) := by decide +kernel
theorem dX9_clip_23 : decode cX9_clip 23 = .ok (.putfield 77, 3) := by decide +kernel
theorem dX9_clip_26 : decode cX9_clip 26 = .ok (.return_, 1) := by decide +kernel
theorem dX9_dashes_0 : decode cX9_dashes 0 = .ok (.aload_n 0, 1) := by decide +kernel
theorem dX9_dashes_1 : decode cX9_dashes 1 = .ok (.iload_n 1, 1) := by decide +kernel
theorem dX9_dashes_2 : decode cX9_dashes 2 = .ok (.ldc 29, 2) := by decide +kernel
theorem dX9_dashes_4 : decode cX9_dashes 4 = .ok (.iand, 1) := by decide +kernel
theorem dX9_dashes_5 : decode cX9_dashes 5 = .ok (.putfield 30, 3) := by decide +kernel
theorem dX9_dashes_8 : decode cX9_dashes 8 = .ok (.return_, 1) := by decide +kernel
theorem dX9_line_0 : decode cX9_line 0 = .ok (.aload_n 0, 1) := by decide +kernel
theorem dX9_line_1 : decode cX9_line 1 = .ok (.iload_n 1, 1) := by decide +kernel
theorem dX9_line_2 : decode cX9_line 2 = .ok (.invokevirtual 112, 3) := by decide +kernel
theorem dX9_line_5 : decode cX9_line 5 = .ok (.ifCond .eq 45, 3) := by decide +kernel
theorem dX9_line_50 : decode cX9_line 50 = .ok (.iconst (-1), 1) := by decide +kernel
theorem dX9_line_51 : decode cX9_line 51 = .ok (.ireturn, 1) := by decide +kernel
theorem dX9_circle_0 : decode cX9_circle 0 = .ok (.aload_n 0, 1) := by decide +kernel
theorem dX9_circle_1 : decode cX9_circle 1 = .ok (.iload_n 1, 1) := by decide +kernel
theorem dX9_circle_2 : decode cX9_circle 2 = .ok (.invokevirtual 112, 3) := by decide +kernel
theorem dX9_circle_5 : decode cX9_circle 5 = .ok (.ifCond .eq 36, 3) := by decide +kernel
theorem dX9_circle_41 : decode cX9_circle 41 = .ok (.iconst (-1), 1) := by decide +kernel
theorem dX9_circle_42 : decode cX9_circle 42 = .ok (.ireturn, 1) := by decide +kernel
theorem dX9_fill_0 : decode cX9_fill 0 = .ok (.aload_n 0, 1) := by decide +kernel
theorem dX9_fill_1 : decode cX9_fill 1 = .ok (.iload_n 1, 1) := by decide +kernel
theorem dX9_fill_2 : decode cX9_fill 2 = .ok (.invokevirtual 112, 3) := by decide +kernel
theorem dX9_fill_5 : decode cX9_fill 5 = .ok (.ifCond .eq 12, 3) := by decide +kernel
theorem dX9_fill_17 : decode cX9_fill 17 = .ok (.iconst (-1), 1) := by decide +kernel
theorem dX9_fill_18 : decode cX9_fill 18 = .ok (.ireturn, 1) := by decide +kernel
theorem dX9_shade_0 : decode cX9_shade 0 = .ok (.aload_n 0, 1) := by decide +kernel
theorem dX9_shade_1 : decode cX9_shade 1 = .ok (.iload_n 1, 1) := by decide +kernel
theorem dX9_shade_2 : decode cX9_shade 2 = .ok (.invokevirtual 112, 3) := by decide +kernel
theorem dX9_shade_5 : decode cX9_shade 5 = .ok (.ifCond .ne 5, 3) := by decide +kernel
theorem dX9_shade_8 : decode cX9_shade 8 = .ok (.iconst (-1), 1) := by decide +kernel
theorem dX9_shade_9 : decode cX9_shade 9 = .ok (.ireturn, 1) := by decide +kernel
theorem dX9_flood_0 : decode cX9_flood 0 = .ok (.aload_n 0, 1) := by decide +kernel
theorem dX9_flood_1 : decode cX9_flood 1 = .ok (.iload_n 1, 1) := by decide +kernel
theorem dX9_flood_2 : decode cX9_flood 2 = .ok (.invokevirtual 112, 3) := by decide +kernel
theorem dX9_flood_5 : decode cX9_flood 5 = .ok (.ifCond .eq 13, 3) := by decide +kernel
theorem dX9_flood_18 : decode cX9_flood 18 = .ok (.iconst (-1), 1) := by decide +kernel
theorem dX9_flood_19 : decode cX9_flood 19 = .ok (.ireturn, 1) := by decide +kernel
theorem dX9_copy_0 : decode cX9_copy 0 = .ok (.aload_n 0, 1) := by decide +kernel
theorem dX9_copy_1 : decode cX9_copy 1 = .ok (.iload_n 1, 1) := by decide +kernel
theorem dX9_copy_2 : decode cX9_copy 2 = .ok (.invokevirtual 112, 3) := by decide +kernel
theorem dX9_copy_5 : decode cX9_copy 5 = .ok (.ifCond .eq 54, 3) := by decide +kernel
theorem dX9_copy_59 : decode cX9_copy 59 = .ok (.iconst (-1), 1) := by decide +kernel
theorem dX9_copy_60 : decode cX9_copy 60 = .ok (.ireturn, 1) := by decide +kernel
theorem dX9_stretch_0 : decode cX9_stretch 0 = .ok (.aload_n 0, 1) := by decide +kernel
theorem dX9_stretch_1 : decode cX9_stretch 1 = .ok (.iload_n 1, 1) := by decide +kernel
theorem dX9_stretch_2 : decode cX9_stretch 2 = .ok (.invokevirtual 112, 3) := by decide +kernel
theorem dX9_stretch_5 : decode cX9_stretch 5 = .ok (.ifCond .eq 82, 3) := by decide +kernel
theorem dX9_stretch_87 : decode cX9_stretch 87 = .ok (.iconst (-1), 1) := by decide +kernel
theorem dX9_stretch_88 : decode cX9_stretch 88 = .ok (.ireturn, 1) := by decide +kernel
theorem dX9_dot_0 : decode cX9_dot 0 = .ok (.aload_n 0, 1) := by decide +kernel
theorem dX9_dot_1 : decode cX9_dot 1 = .ok (.iload_n 1, 1) := by decide +kernel
theorem dX9_dot_2 : decode cX9_dot 2 = .ok (.invokevirtual 112, 3) := by decide +kernel
theorem dX9_dot_5 : decode cX9_dot 5 = .ok (.ifCond .eq 27, 3) := by decide +kernel
theorem dX9_dot_32 : decode cX9_dot 32 = .ok (.iconst 0, 1) := by decide +kernel
theorem dX9_dot_33 : decode cX9_dot 33 = .ok (.ireturn, 1) := by decide +kernel
theorem dX9_count_0 : decode cX9_count 0 = .ok (.aload_n 0, 1) := by decide +kernel
theorem dX9_count_1 : decode cX9_count 1 = .ok (.iload_n 1, 1) := by decide +kernel
theorem dX9_count_2 : decode cX9_count 2 = .ok (.invokevirtual 112, 3) := by decide +kernel
theorem dX9_count_5 : decode cX9_count 5 = .ok (.ifCond .ne 5, 3) := by decide +kernel
theorem dX9_count_8 : decode cX9_count 8 = .ok (.iconst (-1), 1) := by decide +kernel
theorem dX9_count_9 : decode cX9_count 9 = .ok (.ireturn, 1) := by decide +kernel
theorem dX9_region_0 : decode cX9_region 0 = .ok (.aload_n 0, 1) := by decide +kernel
theorem dX9_region_1 : decode cX9_region 1 = .ok (.iload_n 1, 1) := by decide +kernel
theorem dX9_region_2 : decode cX9_region 2 = .ok (.invokevirtual 112, 3) := by decide +kernel
theorem dX9_region_5 : decode cX9_region 5 = .ok (.ifCond .eq 13, 3) := by decide +kernel
theorem dX9_region_18 : decode cX9_region 18 = .ok (.iconst (-1), 1) := by decide +kernel
theorem dX9_region_19 : decode cX9_region 19 = .ok (.ireturn, 1) := by decide +kernel
theorem dX9_differ_0 : decode cX9_differ 0 = .ok (.aload_n 0, 1) := by decide +kernel
theorem dX9_differ_1 : decode cX9_differ 1 = .ok (.iload_n 1, 1) := by decide +kernel
theorem dX9_differ_2 : decode cX9_differ 2 = .ok (.invokevirtual 112, 3) := by decide +kernel
theorem dX9_differ_5 : decode cX9_differ 5 = .ok (.ifCond .eq 41, 3) := by decide +kernel
theorem dX9_differ_46 : decode cX9_differ 46 = .ok (.iconst (-1), 1) := by decide +kernel
theorem dX9_differ_47 : decode cX9_differ 47 = .ok (.ireturn, 1) := by decide +kernel
theorem dX9_look_0 : decode cX9_look 0 = .ok (.aload_n 0, 1) := by decide +kernel
theorem dX9_look_1 : decode cX9_look 1 = .ok (.iload_n 1, 1) := by decide +kernel
theorem dX9_look_2 : decode cX9_look 2 = .ok (.invokevirtual 112, 3) := by decide +kernel
theorem dX9_look_5 : decode cX9_look 5 = .ok (.ifCond .eq 13, 3) := by decide +kernel
theorem dX9_look_18 : decode cX9_look 18 = .ok (.iconst (-1), 1) := by decide +kernel
theorem dX9_look_19 : decode cX9_look 19 = .ok (.ireturn, 1) := by decide +kernel
theorem dX9_point_0 : decode cX9_point 0 = .ok (.aload_n 0, 1) := by decide +kernel
theorem dX9_point_1 : decode cX9_point 1 = .ok (.getfield 138, 3) := by decide +kernel
theorem dX9_point_4 : decode cX9_point 4 = .ok (.bipush 48, 2) := by decide +kernel
theorem dX9_point_6 : decode cX9_point 6 = .ok (.if_icmp .eq 23, 3) := by decide +kernel
theorem dX9_point_9 : decode cX9_point 9 = .ok (.iload_n 1, 1) := by decide +kernel
theorem dX9_point_10 : decode cX9_point 10 = .ok (.sipush 4096, 3) := by decide +kernel
theorem dX9_point_13 : decode cX9_point 13 = .ok (.invokestatic 116, 3) := by decide +kernel
theorem dX9_point_16 : decode cX9_point 16 = .ok (.ifCond .eq 13, 3) := by decide +kernel
theorem dX9_point_29 : decode cX9_point 29 = .ok (.iconst (-1), 1) := by decide +kernel
theorem dX9_point_30 : decode cX9_point 30 = .ok (.ireturn, 1) := by decide +kernel
theorem dX9_point_19 : decode cX9_point 19 = .ok (.iload_n 2, 1) := by decide +kernel
theorem dX9_point_20 : decode cX9_point 20 = .ok (.sipush 4096, 3) := by decide +kernel
theorem dX9_point_23 : decode cX9_point 23 = .ok (.invokestatic 116, 3) := by decide +kernel
theorem dX9_point_26 : decode cX9_point 26 = .ok (.ifCond .ne 5, 3) := by decide +kernel
theorem dX9_point_31 : decode cX9_point 31 = .ok (.aload_n 0, 1) := by decide +kernel
theorem dX9_point_32 : decode cX9_point 32 = .ok (.getfield 43, 3) := by decide +kernel
theorem dX9_point_35 : decode cX9_point 35 = .ok (.aload_n 0, 1) := by decide +kernel
theorem dX9_point_36 : decode cX9_point 36 = .ok (.getfield 138, 3) := by decide +kernel
theorem dX9_point_39 : decode cX9_point 39 = .ok (.iconst 2, 1) := by decide +kernel
theorem dX9_point_40 : decode cX9_point 40 = .ok (.iload_n 1, 1) := by decide +kernel
theorem dX9_point_41 : decode cX9_point 41 = .ok (.imul, 1) := by decide +kernel
theorem dX9_point_42 : decode cX9_point 42 = .ok (.iastore, 1) := by decide +kernel
theorem dX9_point_43 : decode cX9_point 43 = .ok (.aload_n 0, 1) := by decide +kernel
theorem dX9_point_44 : decode cX9_point 44 = .ok (.getfield 46, 3) := by decide +kernel
theorem dX9_point_47 : decode cX9_point 47 = .ok (.aload_n 0, 1) := by decide +kernel
theorem dX9_point_48 : decode cX9_point 48 = .ok (.getfield 138, 3) := by decide +kernel
theorem dX9_point_51 : decode cX9_point 51 = .ok (.iconst 2, 1) := by decide +kernel
theorem dX9_point_52 : decode cX9_point 52 = .ok (.iload_n 2, 1) := by decide +kernel
theorem dX9_point_53 : decode cX9_point 53 = .ok (.imul, 1) := by decide +kernel
theorem dX9_point_54 : decode cX9_point 54 = .ok (.iastore, 1) := by decide +kernel
theorem dX9_point_55 : decode cX9_point 55 = .ok (.aload_n 0, 1) := by decide +kernel
theorem dX9_point_56 : decode cX9_point 56 = .ok (.getfield 49, 3) := by decide +kernel
theorem dX9_point_59 : decode cX9_point 59 = .ok (.aload_n 0, 1) := by decide +kernel
theorem dX9_point_60 : decode cX9_point 60 = .ok (.getfield 138, 3) := by decide +kernel
theorem dX9_point_63 : decode cX9_point 63 = .ok (.iload_n 3, 1) := by decide +kernel
theorem dX9_point_64 : decode cX9_point 64 = .ok (.ifCond .ne 10, 3) := by decide +kernel
theorem dX9_point_74 : decode cX9_point 74 = .ok (.iconst 1, 1) := by decide +kernel
theorem dX9_point_75 : decode cX9_point 75 = .ok (.goto 4, 3) := by decide +kernel
theorem dX9_point_79 : decode cX9_point 79 = .ok (.bastore, 1) := by decide +kernel
theorem dX9_point_80 : decode cX9_point 80 = .ok (.aload_n 0, 1) := by decide +kernel
theorem dX9_point_81 : decode cX9_point 81 = .ok (.aload_n 0, 1) := by decide +kernel
theorem dX9_point_82 : decode cX9_point 82 = .ok (.getfield 138, 3) := by decide +kernel
theorem dX9_point_85 : decode cX9_point 85 = .ok (.iconst 1, 1) := by decide +kernel
theorem dX9_point_86 : decode cX9_point 86 = .ok (.iadd, 1) := by decide +kernel
theorem dX9_point_87 : decode cX9_point 87 = .ok (.putfield 138, 3) := by decide +kernel
theorem dX9_point_90 : decode cX9_point 90 = .ok (.aload_n 0, 1) := by decide +kernel
theorem dX9_point_91 : decode cX9_point 91 = .ok (.getfield 138, 3) := by decide +kernel
theorem dX9_point_94 : decode cX9_point 94 = .ok (.ireturn, 1) := by decide +kernel
theorem dX9_point_67 : decode cX9_point 67 = .ok (.aload_n 0, 1) := by decide +kernel
theorem dX9_point_68 : decode cX9_point 68 = .ok (.getfield 138, 3) := by decide +kernel
theorem dX9_point_71 : decode cX9_point 71 = .ok (.ifCond .ne 7, 3) := by decide +kernel
theorem dX9_clear_0 : decode cX9_clear 0 = .ok (.aload_n 0, 1) := by decide +kernel
theorem dX9_clear_1 : decode cX9_clear 1 = .ok (.iconst 0, 1) := by decide +kernel
theorem dX9_clear_2 : decode cX9_clear 2 = .ok (.putfield 138, 3) := by decide +kernel
theorem dX9_clear_5 : decode cX9_clear 5 = .ok (.return_, 1) := by decide +kernel
theorem dX9_winding_0 : decode cX9_winding 0 = .ok (.iconst 0, 1) := by decide +kernel
theorem dX9_winding_1 : decode cX9_winding 1 = .ok (.istore 5, 2) := by decide +kernel
theorem dX9_winding_3 : decode cX9_winding 3 = .ok (.iconst 0, 1) := by decide +kernel
theorem dX9_winding_4 : decode cX9_winding 4 = .ok (.istore 6, 2) := by decide +kernel
theorem dX9_winding_6 : decode cX9_winding 6 = .ok (.iconst 0, 1) := by decide +kernel
theorem dX9_winding_7 : decode cX9_winding 7 = .ok (.istore 7, 2) := by decide +kernel
theorem dX9_winding_9 : decode cX9_winding 9 = .ok (.iload 7, 2) := by decide +kernel
theorem dX9_winding_11 : decode cX9_winding 11 = .ok (.aload_n 0, 1) := by decide +kernel
theorem dX9_winding_12 : decode cX9_winding 12 = .ok (.getfield 138, 3) := by decide +kernel
theorem dX9_winding_15 : decode cX9_winding 15 = .ok (.if_icmp .ge 99, 3) := by decide +kernel
theorem dX9_winding_114 : decode cX9_winding 114 = .ok (.iload 5, 2) := by decide +kernel
theorem dX9_winding_116 : decode cX9_winding 116 = .ok (.ireturn, 1) := by decide +kernel
theorem dX9_isInside_0 : decode cX9_isInside 0 = .ok (.aload_n 0, 1) := by decide +kernel
theorem dX9_isInside_1 : decode cX9_isInside 1 = .ok (.lload_n 1, 1) := by decide +kernel
theorem dX9_isInside_2 : decode cX9_isInside 2 = .ok (.lload_n 3, 1) := by decide +kernel
theorem dX9_isInside_3 : decode cX9_isInside 3 = .ok (.invokevirtual 145, 3) := by decide +kernel
theorem dX9_isInside_6 : decode cX9_isInside 6 = .ok (.istore 6, 2) := by decide +kernel
theorem dX9_isInside_8 : decode cX9_isInside 8 = .ok (.iload 5, 2) := by decide +kernel
theorem dX9_isInside_10 : decode cX9_isInside 10 = .ok (.ifCond .ne 19, 3) := by decide +kernel
theorem dX9_isInside_29 : decode cX9_isInside 29 = .ok (.iload 6, 2) := by decide +kernel
theorem dX9_isInside_31 : decode cX9_isInside 31 = .ok (.ifCond .eq 7, 3) := by decide +kernel
theorem dX9_isInside_38 : decode cX9_isInside 38 = .ok (.iconst 0, 1) := by decide +kernel
theorem dX9_isInside_39 : decode cX9_isInside 39 = .ok (.ireturn, 1) := by decide +kernel
theorem dX9_isInside_13 : decode cX9_isInside 13 = .ok (.iload 6, 2) := by decide +kernel
theorem dX9_isInside_15 : decode cX9_isInside 15 = .ok (.iconst 1, 1) := by decide +kernel
theorem dX9_isInside_16 : decode cX9_isInside 16 = .ok (.iand, 1) := by decide +kernel
theorem dX9_isInside_17 : decode cX9_isInside 17 = .ok (.iconst 1, 1) := by decide +kernel
theorem dX9_isInside_18 : decode cX9_isInside 18 = .ok (.if_icmp .ne 7, 3) := by decide +kernel
theorem dX9_isInside_25 : decode cX9_isInside 25 = .ok (.iconst 0, 1) := by decide +kernel
theorem dX9_isInside_26 : decode cX9_isInside 26 = .ok (.goto 13, 3) := by decide +kernel
theorem dX9_inside_0 : decode cX9_inside 0 = .ok (.iload_n 3, 1) := by decide +kernel
theorem dX9_inside_1 : decode cX9_inside 1 = .ok (.ifCond .lt 8, 3) := by decide +kernel
theorem dX9_inside_9 : decode cX9_inside 9 = .ok (.iconst (-1), 1) := by decide +kernel
theorem dX9_inside_10 : decode cX9_inside 10 = .ok (.ireturn, 1) := by decide +kernel
theorem dX9_inside_4 : decode cX9_inside 4 = .ok (.iload_n 3, 1) := by decide +kernel
theorem dX9_inside_5 : decode cX9_inside 5 = .ok (.iconst 1, 1) := by decide +kernel
theorem dX9_inside_6 : decode cX9_inside 6 = .ok (.if_icmp .le 5, 3) := by decide +kernel
theorem dX9_inside_11 : decode cX9_inside 11 = .ok (.aload_n 0, 1) := by decide +kernel
theorem dX9_inside_12 : decode cX9_inside 12 = .ok (.iload_n 1, 1) := by decide +kernel
theorem dX9_inside_13 : decode cX9_inside 13 = .ok (.i2l, 1) := by decide +kernel
theorem dX9_inside_14 : decode cX9_inside 14 = .ok (.iload_n 2, 1) := by decide +kernel
theorem dX9_inside_15 : decode cX9_inside 15 = .ok (.i2l, 1) := by decide +kernel
theorem dX9_inside_16 : decode cX9_inside 16 = .ok (.iload_n 3, 1) := by decide +kernel
theorem dX9_inside_17 : decode cX9_inside 17 = .ok (.invokevirtual 149, 3) := by decide +kernel
theorem dX9_inside_20 : decode cX9_inside 20 = .ok (.ifCond .eq 7, 3) := by decide +kernel
theorem dX9_inside_27 : decode cX9_inside 27 = .ok (.iconst 0, 1) := by decide +kernel
theorem dX9_inside_28 : decode cX9_inside 28 = .ok (.ireturn, 1) := by decide +kernel
theorem dX9_corner_0 : decode cX9_corner 0 = .ok (.iload_n 1, 1) := by decide +kernel
theorem dX9_corner_1 : decode cX9_corner 1 = .ok (.ifCond .lt 28, 3) := by decide +kernel
theorem dX9_corner_29 : decode cX9_corner 29 = .ok (.iconst 0, 1) := by decide +kernel
theorem dX9_corner_30 : decode cX9_corner 30 = .ok (.ireturn, 1) := by decide +kernel
theorem dX9_corner_4 : decode cX9_corner 4 = .ok (.iload_n 1, 1) := by decide +kernel
theorem dX9_corner_5 : decode cX9_corner 5 = .ok (.iconst 2, 1) := by decide +kernel
theorem dX9_corner_6 : decode cX9_corner 6 = .ok (.if_icmp .gt 23, 3) := by decide +kernel
theorem dX9_corner_9 : decode cX9_corner 9 = .ok (.iload_n 2, 1) := by decide +kernel
theorem dX9_corner_10 : decode cX9_corner 10 = .ok (.sipush 200, 3) := by decide +kernel
theorem dX9_corner_13 : decode cX9_corner 13 = .ok (.invokestatic 116, 3) := by decide +kernel
theorem dX9_corner_16 : decode cX9_corner 16 = .ok (.ifCond .eq 13, 3) := by decide +kernel
theorem dX9_corner_19 : decode cX9_corner 19 = .ok (.iload_n 3, 1) := by decide +kernel
theorem dX9_corner_20 : decode cX9_corner 20 = .ok (.sipush 200, 3) := by decide +kernel
theorem dX9_corner_23 : decode cX9_corner 23 = .ok (.invokestatic 116, 3) := by decide +kernel
theorem dX9_corner_26 : decode cX9_corner 26 = .ok (.ifCond .ne 5, 3) := by decide +kernel
theorem dX9_corner_31 : decode cX9_corner 31 = .ok (.aload_n 0, 1) := by decide +kernel
theorem dX9_corner_32 : decode cX9_corner 32 = .ok (.getfield 52, 3) := by decide +kernel
theorem dX9_corner_35 : decode cX9_corner 35 = .ok (.iload_n 1, 1) := by decide +kernel
theorem dX9_corner_36 : decode cX9_corner 36 = .ok (.iload_n 2, 1) := by decide +kernel
theorem dX9_corner_37 : decode cX9_corner 37 = .ok (.iastore, 1) := by decide +kernel
theorem dX9_corner_38 : decode cX9_corner 38 = .ok (.aload_n 0, 1) := by decide +kernel
theorem dX9_corner_39 : decode cX9_corner 39 = .ok (.getfield 55, 3) := by decide +kernel
theorem dX9_corner_42 : decode cX9_corner 42 = .ok (.iload_n 1, 1) := by decide +kernel
theorem dX9_corner_43 : decode cX9_corner 43 = .ok (.iload_n 3, 1) := by decide +kernel
theorem dX9_corner_44 : decode cX9_corner 44 = .ok (.iastore, 1) := by decide +kernel
theorem dX9_corner_45 : decode cX9_corner 45 = .ok (.aload_n 0, 1) := by decide +kernel
theorem dX9_corner_46 : decode cX9_corner 46 = .ok (.getfield 58, 3) := by decide +kernel
theorem dX9_corner_49 : decode cX9_corner 49 = .ok (.iload_n 1, 1) := by decide +kernel
theorem dX9_corner_50 : decode cX9_corner 50 = .ok (.iload 4, 2) := by decide +kernel
theorem dX9_corner_52 : decode cX9_corner 52 = .ok (.invokestatic 108, 3) := by decide +kernel
theorem dX9_corner_55 : decode cX9_corner 55 = .ok (.iastore, 1) := by decide +kernel
theorem dX9_corner_56 : decode cX9_corner 56 = .ok (.iconst 1, 1) := by decide +kernel
theorem dX9_corner_57 : decode cX9_corner 57 = .ok (.ireturn, 1) := by decide +kernel
