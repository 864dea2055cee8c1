theorem dX0_init_0 : decode cX0_init 0 = .ok (.aload_n 0, 1) := by decide +kernel
theorem dX0_init_1 : decode cX0_init 1 = .ok (.invokespecial 3, 3) := by decide +kernel
theorem dX0_init_4 : decode cX0_init 4 = .ok (.aload_n 0, 1) := by decide +kernel
theorem dX0_init_5 : decode cX0_init 5 = .ok (.iconst 0, 1) := by decide +kernel
theorem dX0_init_6 : decode cX0_init 6 = .ok (.putfield 9, 3) := by decide +kernel
theorem dX0_init_9 : decode cX0_init 9 = .ok (.aload_n 0, 1) := by decide +kernel
theorem dX0_init_10 : decode cX0_init 10 = .ok (.iconst 0, 1) := by decide +kernel
theorem dX0_init_11 : decode cX0_init 11 = .ok (.putfield 15, 3) := by decide +kernel
theorem dX0_init_14 : decode cX0_init 14 = .ok (.aload_n 0, 1) := by decide +kernel
theorem dX0_init_15 : decode cX0_init 15 = .ok (.bipush 63, 2) := by decide +kernel
theorem dX0_init_17 : decode cX0_init 17 = .ok (.putfield 18, 3) := by decide +kernel
theorem dX0_init_20 : decode cX0_init 20 = .ok (.aload_n 0, 1) := by decide +kernel
theorem dX0_init_21 : decode cX0_init 21 = .ok (.bipush 63, 2) := by decide +kernel
theorem dX0_init_23 : decode cX0_init 23 = .ok (.putfield 21, 3) := by decide +kernel
theorem dX0_init_26 : decode cX0_init 26 = .ok (.return_, 1) := by decide +kernel
theorem dX0_bound_0 : decode cX0_bound 0 = .ok (.aload_n 0, 1) := by decide +kernel
theorem dX0_bound_1 : decode cX0_bound 1 = .ok (.iload_n 1, 1) := by decide +kernel
theorem dX0_bound_2 : decode cX0_bound 2 = .ok (.putfield 9, 3) := by decide +kernel
theorem dX0_bound_5 : decode cX0_bound 5 = .ok (.aload_n 0, 1) := by decide +kernel
theorem dX0_bound_6 : decode cX0_bound 6 = .ok (.iload_n 2, 1) := by decide +kernel
theorem dX0_bound_7 : decode cX0_bound 7 = .ok (.putfield 15, 3) := by decide +kernel
theorem dX0_bound_10 : decode cX0_bound 10 = .ok (.aload_n 0, 1) := by decide +kernel
theorem dX0_bound_11 : decode cX0_bound 11 = .ok (.iload_n 3, 1) := by decide +kernel
theorem dX0_bound_12 : decode cX0_bound 12 = .ok (.putfield 18, 3) := by decide +kernel
theorem dX0_bound_15 : decode cX0_bound 15 = .ok (.aload_n 0, 1) := by decide +kernel
theorem dX0_bound_16 : decode cX0_bound 16 = .ok (.iload 4, 2) := by decide +kernel
theorem dX0_bound_18 : decode cX0_bound 18 = .ok (.putfield 21, 3) := by decide +kernel
theorem dX0_bound_21 : decode cX0_bound 21 = .ok (.return_, 1) := by decide +kernel
theorem dX0_holds_0 : decode cX0_holds 0 = .ok (.iload_n 1, 1) := by decide +kernel
theorem dX0_holds_1 : decode cX0_holds 1 = .ok (.aload_n 0, 1) := by decide +kernel
theorem dX0_holds_2 : decode cX0_holds 2 = .ok (.getfield 9, 3) := by decide +kernel
theorem dX0_holds_5 : decode cX0_holds 5 = .ok (.if_icmp .lt 31, 3) := by decide +kernel
theorem dX0_holds_8 : decode cX0_holds 8 = .ok (.iload_n 1, 1) := by decide +kernel
theorem dX0_holds_9 : decode cX0_holds 9 = .ok (.aload_n 0, 1) := by decide +kernel
theorem dX0_holds_10 : decode cX0_holds 10 = .ok (.getfield 18, 3) := by decide +kernel
theorem dX0_holds_13 : decode cX0_holds 13 = .ok (.if_icmp .gt 23, 3) := by decide +kernel
theorem dX0_holds_16 : decode cX0_holds 16 = .ok (.iload_n 2, 1) := by decide +kernel
theorem dX0_holds_17 : decode cX0_holds 17 = .ok (.aload_n 0, 1) := by decide +kernel
theorem dX0_holds_18 : decode cX0_holds 18 = .ok (.getfield 15, 3) := by decide +kernel
theorem dX0_holds_21 : decode cX0_holds 21 = .ok (.if_icmp .lt 15, 3) := by decide +kernel
theorem dX0_holds_24 : decode cX0_holds 24 = .ok (.iload_n 2, 1) := by decide +kernel
theorem dX0_holds_25 : decode cX0_holds 25 = .ok (.aload_n 0, 1) := by decide +kernel
theorem dX0_holds_26 : decode cX0_holds 26 = .ok (.getfield 21, 3) := by decide +kernel
theorem dX0_holds_29 : decode cX0_holds 29 = .ok (.if_icmp .gt 7, 3) := by decide +kernel
theorem dX0_holds_32 : decode cX0_holds 32 = .ok (.iconst 1, 1) := by decide +kernel
theorem dX0_holds_33 : decode cX0_holds 33 = .ok (.goto 4, 3) := by decide +kernel
theorem dX0_holds_36 : decode cX0_holds 36 = .ok (.iconst 0, 1) := by decide +kernel
theorem dX0_holds_37 : decode cX0_holds 37 = .ok (.ireturn, 1) := by decide +kernel
theorem dX1_init_0 : decode cX1_init 0 = .ok (.aload_n 0, 1) := by decide +kernel
theorem dX1_init_1 : decode cX1_init 1 = .ok (.invokespecial 3, 3) := by decide +kernel
theorem dX1_init_4 : decode cX1_init 4 = .ok (.aload_n 0, 1) := by decide +kernel
theorem dX1_init_5 : decode cX1_init 5 = .ok (.new 9, 3) := by decide +kernel
theorem dX1_init_8 : decode cX1_init 8 = .ok (.dup, 1) := by decide +kernel
theorem dX1_init_9 : decode cX1_init 9 = .ok (.invokespecial 11, 3) := by decide +kernel
theorem dX1_init_12 : decode cX1_init 12 = .ok (.putfield 12, 3) := by decide +kernel
theorem dX1_init_15 : decode cX1_init 15 = .ok (.aload_n 0, 1) := by decide +kernel
theorem dX1_init_16 : decode cX1_init 16 = .ok (.iconst (-1), 1) := by decide +kernel
theorem dX1_init_17 : decode cX1_init 17 = .ok (.putfield 18, 3) := by decide +kernel
theorem dX1_init_20 : decode cX1_init 20 = .ok (.aload_n 0, 1) := by decide +kernel
theorem dX1_init_21 : decode cX1_init 21 = .ok (.iconst 3, 1) := by decide +kernel
theorem dX1_init_22 : decode cX1_init 22 = .ok (.putfield 22, 3) := by decide +kernel
theorem dX1_init_25 : decode cX1_init 25 = .ok (.aload_n 0, 1) := by decide +kernel
theorem dX1_init_26 : decode cX1_init 26 = .ok (.sipush 255, 3) := by decide +kernel
theorem dX1_init_29 : decode cX1_init 29 = .ok (.putfield 25, 3) := by decide +kernel
theorem dX1_init_32 : decode cX1_init 32 = .ok (.return_, 1) := by decide +kernel
theorem dX1_measureOf_0 : decode cX1_measureOf 0 = .ok (.iconst 2, 1) := by decide +kernel
theorem dX1_measureOf_1 : decode cX1_measureOf 1 = .ok (.aload_n 0, 1) := by decide +kernel
theorem dX1_measureOf_2 : decode cX1_measureOf 2 = .ok (.getfield 25, 3) := by decide +kernel
theorem dX1_measureOf_5 : decode cX1_measureOf 5 = .ok (.imul, 1) := by decide +kernel
theorem dX1_measureOf_6 : decode cX1_measureOf 6 = .ok (.iload_n 1, 1) := by decide +kernel
theorem dX1_measureOf_7 : decode cX1_measureOf 7 = .ok (.imul, 1) := by decide +kernel
theorem dX1_measureOf_8 : decode cX1_measureOf 8 = .ok (.bipush 16, 2) := by decide +kernel
theorem dX1_measureOf_10 : decode cX1_measureOf 10 = .ok (.iadd, 1) := by decide +kernel
theorem dX1_measureOf_11 : decode cX1_measureOf 11 = .ok (.bipush 32, 2) := by decide +kernel
theorem dX1_measureOf_13 : decode cX1_measureOf 13 = .ok (.idiv, 1) := by decide +kernel
theorem dX1_measureOf_14 : decode cX1_measureOf 14 = .ok (.ireturn, 1) := by decide +kernel
theorem dX1_lay_0 : decode cX1_lay 0 = .ok (.aload_n 1, 1) := by decide +kernel
theorem dX1_lay_1 : decode cX1_lay 1 = .ok (.iload_n 2, 1) := by decide +kernel
theorem dX1_lay_2 : decode cX1_lay 2 = .ok (.iload_n 3, 1) := by decide +kernel
theorem dX1_lay_3 : decode cX1_lay 3 = .ok (.invokevirtual 28, 3) := by decide +kernel
theorem dX1_lay_6 : decode cX1_lay 6 = .ok (.ifCond .eq 15, 3) := by decide +kernel
theorem dX1_lay_9 : decode cX1_lay 9 = .ok (.aload_n 0, 1) := by decide +kernel
theorem dX1_lay_10 : decode cX1_lay 10 = .ok (.getfield 12, 3) := by decide +kernel
theorem dX1_lay_13 : decode cX1_lay 13 = .ok (.iload_n 2, 1) := by decide +kernel
theorem dX1_lay_14 : decode cX1_lay 14 = .ok (.iload_n 3, 1) := by decide +kernel
theorem dX1_lay_15 : decode cX1_lay 15 = .ok (.invokevirtual 34, 3) := by decide +kernel
theorem dX1_lay_18 : decode cX1_lay 18 = .ok (.ifCond .ne 5, 3) := by decide +kernel
theorem dX1_lay_21 : decode cX1_lay 21 = .ok (.iconst 0, 1) := by decide +kernel
theorem dX1_lay_22 : decode cX1_lay 22 = .ok (.ireturn, 1) := by decide +kernel
theorem dX1_lay_23 : decode cX1_lay 23 = .ok (.aload_n 1, 1) := by decide +kernel
theorem dX1_lay_24 : decode cX1_lay 24 = .ok (.iload_n 2, 1) := by decide +kernel
theorem dX1_lay_25 : decode cX1_lay 25 = .ok (.iload_n 3, 1) := by decide +kernel
theorem dX1_lay_26 : decode cX1_lay 26 = .ok (.aload_n 0, 1) := by decide +kernel
theorem dX1_lay_27 : decode cX1_lay 27 = .ok (.iload 4, 2) := by decide +kernel
theorem dX1_lay_29 : decode cX1_lay 29 = .ok (.aload_n 1, 1) := by decide +kernel
theorem dX1_lay_30 : decode cX1_lay 30 = .ok (.iload_n 2, 1) := by decide +kernel
theorem dX1_lay_31 : decode cX1_lay 31 = .ok (.iload_n 3, 1) := by decide +kernel
theorem dX1_lay_32 : decode cX1_lay 32 = .ok (.invokevirtual 37, 3) := by decide +kernel
theorem dX1_lay_35 : decode cX1_lay 35 = .ok (.iload 5, 2) := by decide +kernel
theorem dX1_lay_37 : decode cX1_lay 37 = .ok (.invokevirtual 41, 3) := by decide +kernel
theorem dX1_lay_40 : decode cX1_lay 40 = .ok (.invokevirtual 45, 3) := by decide +kernel
theorem dX1_lay_43 : decode cX1_lay 43 = .ok (.iconst 1, 1) := by decide +kernel
theorem dX1_lay_44 : decode cX1_lay 44 = .ok (.ireturn, 1) := by decide +kernel
theorem dX1_laid_0 : decode cX1_laid 0 = .ok (.aload_n 0, 1) := by decide +kernel
theorem dX1_laid_1 : decode cX1_laid 1 = .ok (.iload_n 2, 1) := by decide +kernel
theorem dX1_laid_2 : decode cX1_laid 2 = .ok (.bipush 24, 2) := by decide +kernel
theorem dX1_laid_4 : decode cX1_laid 4 = .ok (.invokestatic 49, 3) := by decide +kernel
theorem dX1_laid_7 : decode cX1_laid 7 = .ok (.invokevirtual 52, 3) := by decide +kernel
theorem dX1_laid_10 : decode cX1_laid 10 = .ok (.istore 4, 2) := by decide +kernel
theorem dX1_laid_12 : decode cX1_laid 12 = .ok (.aload_n 0, 1) := by decide +kernel
theorem dX1_laid_13 : decode cX1_laid 13 = .ok (.iload_n 1, 1) := by decide +kernel
theorem dX1_laid_14 : decode cX1_laid 14 = .ok (.bipush 24, 2) := by decide +kernel
theorem dX1_laid_16 : decode cX1_laid 16 = .ok (.invokestatic 49, 3) := by decide +kernel
theorem dX1_laid_19 : decode cX1_laid 19 = .ok (.invokevirtual 56, 3) := by decide +kernel
theorem dX1_laid_22 : decode cX1_laid 22 = .ok (.istore 5, 2) := by decide +kernel
theorem dX1_laid_24 : decode cX1_laid 24 = .ok (.iconst 0, 1) := by decide +kernel
theorem dX1_laid_25 : decode cX1_laid 25 = .ok (.istore 6, 2) := by decide +kernel
theorem dX1_laid_27 : decode cX1_laid 27 = .ok (.bipush 24, 2) := by decide +kernel
theorem dX1_laid_29 : decode cX1_laid 29 = .ok (.istore 7, 2) := by decide +kernel
theorem dX1_laid_31 : decode cX1_laid 31 = .ok (.iload 7, 2) := by decide +kernel
theorem dX1_laid_33 : decode cX1_laid 33 = .ok (.ifCond .lt 67, 3) := by decide +kernel
theorem dX1_laid_36 : decode cX1_laid 36 = .ok (.iload_n 2, 1) := by decide +kernel
theorem dX1_laid_37 : decode cX1_laid 37 = .ok (.iload 7, 2) := by decide +kernel
theorem dX1_laid_39 : decode cX1_laid 39 = .ok (.invokestatic 49, 3) := by decide +kernel
theorem dX1_laid_42 : decode cX1_laid 42 = .ok (.istore 8, 2) := by decide +kernel
theorem dX1_laid_44 : decode cX1_laid 44 = .ok (.sipush 255, 3) := by decide +kernel
theorem dX1_laid_47 : decode cX1_laid 47 = .ok (.iload_n 1, 1) := by decide +kernel
theorem dX1_laid_48 : decode cX1_laid 48 = .ok (.iload 7, 2) := by decide +kernel
theorem dX1_laid_50 : decode cX1_laid 50 = .ok (.invokestatic 49, 3) := by decide +kernel
theorem dX1_laid_53 : decode cX1_laid 53 = .ok (.iload 4, 2) := by decide +kernel
theorem dX1_laid_55 : decode cX1_laid 55 = .ok (.imul, 1) := by decide +kernel
theorem dX1_laid_56 : decode cX1_laid 56 = .ok (.iload 8, 2) := by decide +kernel
theorem dX1_laid_58 : decode cX1_laid 58 = .ok (.iload 5, 2) := by decide +kernel
theorem dX1_laid_60 : decode cX1_laid 60 = .ok (.imul, 1) := by decide +kernel
theorem dX1_laid_61 : decode cX1_laid 61 = .ok (.iadd, 1) := by decide +kernel
theorem dX1_laid_62 : decode cX1_laid 62 = .ok (.invokestatic 59, 3) := by decide +kernel
theorem dX1_laid_65 : decode cX1_laid 65 = .ok (.invokestatic 62, 3) := by decide +kernel
theorem dX1_laid_68 : decode cX1_laid 68 = .ok (.istore 9, 2) := by decide +kernel
theorem dX1_laid_70 : decode cX1_laid 70 = .ok (.iload 6, 2) := by decide +kernel
theorem dX1_laid_72 : decode cX1_laid 72 = .ok (.bipush 8, 2) := by decide +kernel
theorem dX1_laid_74 : decode cX1_laid 74 = .ok (.ishl, 1) := by decide +kernel
theorem dX1_laid_75 : decode cX1_laid 75 = .ok (.iload 9, 2) := by decide +kernel
theorem dX1_laid_77 : decode cX1_laid 77 = .ok (.iload_n 3, 1) := by decide +kernel
theorem dX1_laid_78 : decode cX1_laid 78 = .ok (.imul, 1) := by decide +kernel
theorem dX1_laid_79 : decode cX1_laid 79 = .ok (.iload 8, 2) := by decide +kernel
theorem dX1_laid_81 : decode cX1_laid 81 = .ok (.sipush 255, 3) := by decide +kernel
theorem dX1_laid_84 : decode cX1_laid 84 = .ok (.iload_n 3, 1) := by decide +kernel
theorem dX1_laid_85 : decode cX1_laid 85 = .ok (.isub, 1) := by decide +kernel
theorem dX1_laid_86 : decode cX1_laid 86 = .ok (.imul, 1) := by decide +kernel
theorem dX1_laid_87 : decode cX1_laid 87 = .ok (.iadd, 1) := by decide +kernel
theorem dX1_laid_88 : decode cX1_laid 88 = .ok (.invokestatic 59, 3) := by decide +kernel
theorem dX1_laid_91 : decode cX1_laid 91 = .ok (.ior, 1) := by decide +kernel
theorem dX1_laid_92 : decode cX1_laid 92 = .ok (.istore 6, 2) := by decide +kernel
theorem dX1_laid_94 : decode cX1_laid 94 = .ok (.iinc 7 (-8), 3) := by decide +kernel
theorem dX1_laid_97 : decode cX1_laid 97 = .ok (.goto (-66), 3) := by decide +kernel
theorem dX1_laid_100 : decode cX1_laid 100 = .ok (.iload 6, 2) := by decide +kernel
theorem dX1_laid_102 : decode cX1_laid 102 = .ok (.ireturn, 1) := by decide +kernel
theorem dX1_weightOfSource_0 : decode cX1_weightOfSource 0 = .ok (.aload_n 0, 1) := by decide +kernel
theorem dX1_weightOfSource_1 : decode cX1_weightOfSource 1 = .ok (.getfield 22, 3) := by decide +kernel
theorem dX1_weightOfSource_4 : decode cX1_weightOfSource 4 = .ok (.tableswitch 76 1 12 #[64, 76, 64, 70, 68, 76, 70, 76, 68, 70, 70, 64], 64) := by decide +kernel
theorem dX1_weightOfSource_68 : decode cX1_weightOfSource 68 = .ok (.sipush 255, 3) := by decide +kernel
theorem dX1_weightOfSource_71 : decode cX1_weightOfSource 71 = .ok (.ireturn, 1) := by decide +kernel
theorem dX1_weightOfSource_72 : decode cX1_weightOfSource 72 = .ok (.iload_n 1, 1) := by decide +kernel
theorem dX1_weightOfSource_73 : decode cX1_weightOfSource 73 = .ok (.ireturn, 1) := by decide +kernel
theorem dX1_weightOfSource_74 : decode cX1_weightOfSource 74 = .ok (.sipush 255, 3) := by decide +kernel
theorem dX1_weightOfSource_77 : decode cX1_weightOfSource 77 = .ok (.iload_n 1, 1) := by decide +kernel
theorem dX1_weightOfSource_78 : decode cX1_weightOfSource 78 = .ok (.isub, 1) := by decide +kernel
theorem dX1_weightOfSource_79 : decode cX1_weightOfSource 79 = .ok (.ireturn, 1) := by decide +kernel
theorem dX1_weightOfSource_80 : decode cX1_weightOfSource 80 = .ok (.iconst 0, 1) := by decide +kernel
theorem dX1_weightOfSource_81 : decode cX1_weightOfSource 81 = .ok (.ireturn, 1) := by decide +kernel
theorem dX1_weightOfThere_0 : decode cX1_weightOfThere 0 = .ok (.aload_n 0, 1) := by decide +kernel
theorem dX1_weightOfThere_1 : decode cX1_weightOfThere 1 = .ok (.getfield 22, 3) := by decide +kernel
theorem dX1_weightOfThere_4 : decode cX1_weightOfThere 4 = .ok (.tableswitch 72 2 12 #[60, 66, 60, 72, 64, 72, 66, 66, 64, 66, 60], 60) := by decide +kernel
theorem dX1_weightOfThere_64 : decode cX1_weightOfThere 64 = .ok (.sipush 255, 3) := by decide +kernel
theorem dX1_weightOfThere_67 : decode cX1_weightOfThere 67 = .ok (.ireturn, 1) := by decide +kernel
theorem dX1_weightOfThere_68 : decode cX1_weightOfThere 68 = .ok (.iload_n 1, 1) := by decide +kernel
theorem dX1_weightOfThere_69 : decode cX1_weightOfThere 69 = .ok (.ireturn, 1) := by decide +kernel
theorem dX1_weightOfThere_70 : decode cX1_weightOfThere 70 = .ok (.sipush 255, 3) := by decide +kernel
theorem dX1_weightOfThere_73 : decode cX1_weightOfThere 73 = .ok (.iload_n 1, 1) := by decide +kernel
theorem dX1_weightOfThere_74 : decode cX1_weightOfThere 74 = .ok (.isub, 1) := by decide +kernel
theorem dX1_weightOfThere_75 : decode cX1_weightOfThere 75 = .ok (.ireturn, 1) := by decide +kernel
theorem dX1_weightOfThere_76 : decode cX1_weightOfThere 76 = .ok (.iconst 0, 1) := by decide +kernel
theorem dX1_weightOfThere_77 : decode cX1_weightOfThere 77 = .ok (.ireturn, 1) := by decide +kernel
theorem dX2_init_0 : decode cX2_init 0 = .ok (.aload_n 0, 1) := by decide +kernel
theorem dX2_init_1 : decode cX2_init 1 = .ok (.invokespecial 3, 3) := by decide +kernel
theorem dX2_init_4 : decode cX2_init 4 = .ok (.aload_n 0, 1) := by decide +kernel
theorem dX2_init_5 : decode cX2_init 5 = .ok (.iload_n 1, 1) := by decide +kernel
theorem dX2_init_6 : decode cX2_init 6 = .ok (.putfield 9, 3) := by decide +kernel
theorem dX2_init_9 : decode cX2_init 9 = .ok (.aload_n 0, 1) := by decide +kernel
theorem dX2_init_10 : decode cX2_init 10 = .ok (.iload_n 2, 1) := by decide +kernel
theorem dX2_init_11 : decode cX2_init 11 = .ok (.putfield 15, 3) := by decide +kernel
theorem dX2_init_14 : decode cX2_init 14 = .ok (.aload_n 0, 1) := by decide +kernel
theorem dX2_init_15 : decode cX2_init 15 = .ok (.iload_n 3, 1) := by decide +kernel
theorem dX2_init_16 : decode cX2_init 16 = .ok (.putfield 18, 3) := by decide +kernel
theorem dX2_init_19 : decode cX2_init 19 = .ok (.aload_n 0, 1) := by decide +kernel
theorem dX2_init_20 : decode cX2_init 20 = .ok (.iload 4, 2) := by decide +kernel
theorem dX2_init_22 : decode cX2_init 22 = .ok (.putfield 21, 3) := by decide +kernel
theorem dX2_init_25 : decode cX2_init 25 = .ok (.return_, 1) := by decide +kernel
theorem dX2_isNearby_0 : decode cX2_isNearby 0 = .ok (.aload_n 0, 1) := by decide +kernel
theorem dX2_isNearby_1 : decode cX2_isNearby 1 = .ok (.getfield 9, 3) := by decide +kernel
theorem dX2_isNearby_4 : decode cX2_isNearby 4 = .ok (.sipush 200, 3) := by decide +kernel
theorem dX2_isNearby_7 : decode cX2_isNearby 7 = .ok (.invokestatic 24, 3) := by decide +kernel
theorem dX2_isNearby_10 : decode cX2_isNearby 10 = .ok (.ifCond .eq 20, 3) := by decide +kernel
theorem dX2_isNearby_13 : decode cX2_isNearby 13 = .ok (.aload_n 0, 1) := by decide +kernel
theorem dX2_isNearby_14 : decode cX2_isNearby 14 = .ok (.getfield 15, 3) := by decide +kernel
theorem dX2_isNearby_17 : decode cX2_isNearby 17 = .ok (.sipush 200, 3) := by decide +kernel
theorem dX2_isNearby_20 : decode cX2_isNearby 20 = .ok (.invokestatic 24, 3) := by decide +kernel
theorem dX2_isNearby_23 : decode cX2_isNearby 23 = .ok (.ifCond .eq 7, 3) := by decide +kernel
theorem dX2_isNearby_26 : decode cX2_isNearby 26 = .ok (.iconst 1, 1) := by decide +kernel
theorem dX2_isNearby_27 : decode cX2_isNearby 27 = .ok (.goto 4, 3) := by decide +kernel
theorem dX2_isNearby_30 : decode cX2_isNearby 30 = .ok (.iconst 0, 1) := by decide +kernel
theorem dX2_isNearby_31 : decode cX2_isNearby 31 = .ok (.ireturn, 1) := by decide +kernel
theorem dX3_init_0 : decode cX3_init 0 = .ok (.aload_n 0, 1) := by decide +kernel
theorem dX3_init_1 : decode cX3_init 1 = .ok (.invokespecial 3, 3) := by decide +kernel
theorem dX3_init_4 : decode cX3_init 4 = .ok (.aload_n 0, 1) := by decide +kernel
theorem dX3_init_5 : decode cX3_init 5 = .ok (.bipush 48, 2) := by decide +kernel
theorem dX3_init_7 : decode cX3_init 7 = .ok (.newarray .int, 2) := by decide +kernel
theorem dX3_init_9 : decode cX3_init 9 = .ok (.putfield 9, 3) := by decide +kernel
theorem dX3_init_12 : decode cX3_init 12 = .ok (.aload_n 0, 1) := by decide +kernel
theorem dX3_init_13 : decode cX3_init 13 = .ok (.bipush 48, 2) := by decide +kernel
theorem dX3_init_15 : decode cX3_init 15 = .ok (.newarray .int, 2) := by decide +kernel
theorem dX3_init_17 : decode cX3_init 17 = .ok (.putfield 15, 3) := by decide +kernel
theorem dX3_init_20 : decode cX3_init 20 = .ok (.aload_n 0, 1) := by decide +kernel
theorem dX3_init_21 : decode cX3_init 21 = .ok (.bipush 48, 2) := by decide +kernel
theorem dX3_init_23 : decode cX3_init 23 = .ok (.newarray .int, 2) := by decide +kernel
theorem dX3_init_25 : decode cX3_init 25 = .ok (.putfield 18, 3) := by decide +kernel
theorem dX3_init_28 : decode cX3_init 28 = .ok (.aload_n 0, 1) := by decide +kernel
theorem dX3_init_29 : decode cX3_init 29 = .ok (.bipush 48, 2) := by decide +kernel
theorem dX3_init_31 : decode cX3_init 31 = .ok (.newarray .int, 2) := by decide +kernel
theorem dX3_init_33 : decode cX3_init 33 = .ok (.putfield 21, 3) := by decide +kernel
theorem dX3_init_36 : decode cX3_init 36 = .ok (.aload_n 0, 1) := by decide +kernel
theorem dX3_init_37 : decode cX3_init 37 = .ok (.iconst 0, 1) := by decide +kernel
theorem dX3_init_38 : decode cX3_init 38 = .ok (.putfield 24, 3) := by decide +kernel
theorem dX3_init_41 : decode cX3_init 41 = .ok (.aload_n 0, 1) := by decide +kernel
theorem dX3_init_42 : decode cX3_init 42 = .ok (.iconst 0, 1) := by decide +kernel
theorem dX3_init_43 : decode cX3_init 43 = .ok (.putfield 28, 3) := by decide +kernel
theorem dX3_init_46 : decode cX3_init 46 = .ok (.aload_n 0, 1) := by decide +kernel
theorem dX3_init_47 : decode cX3_init 47 = .ok (.iconst 0, 1) := by decide +kernel
theorem dX3_init_48 : decode cX3_init 48 = .ok (.putfield 31, 3) := by decide +kernel
theorem dX3_init_51 : decode cX3_init 51 = .ok (.return_, 1) := by decide +kernel
theorem dX3_empty_0 : decode cX3_empty 0 = .ok (.aload_n 0, 1) := by decide +kernel
theorem dX3_empty_1 : decode cX3_empty 1 = .ok (.iconst 0, 1) := by decide +kernel
theorem dX3_empty_2 : decode cX3_empty 2 = .ok (.putfield 24, 3) := by decide +kernel
theorem dX3_empty_5 : decode cX3_empty 5 = .ok (.return_, 1) := by decide +kernel
theorem dX3_add_0 : decode cX3_add 0 = .ok (.aload_n 0, 1) := by decide +kernel
theorem dX3_add_1 : decode cX3_add 1 = .ok (.getfield 24, 3) := by decide +kernel
theorem dX3_add_4 : decode cX3_add 4 = .ok (.bipush 48, 2) := by decide +kernel
theorem dX3_add_6 : decode cX3_add 6 = .ok (.if_icmp .lt 5, 3) := by decide +kernel
theorem dX3_add_9 : decode cX3_add 9 = .ok (.iconst 0, 1) := by decide +kernel
theorem dX3_add_10 : decode cX3_add 10 = .ok (.ireturn, 1) := by decide +kernel
theorem dX3_add_11 : decode cX3_add 11 = .ok (.iload_n 3, 1) := by decide +kernel
theorem dX3_add_12 : decode cX3_add 12 = .ok (.ifCond .ne 10, 3) := by decide +kernel
theorem dX3_add_15 : decode cX3_add 15 = .ok (.aload_n 0, 1) := by decide +kernel
theorem dX3_add_16 : decode cX3_add 16 = .ok (.getfield 24, 3) := by decide +kernel
theorem dX3_add_19 : decode cX3_add 19 = .ok (.ifCond .ne 16, 3) := by decide +kernel
theorem dX3_add_22 : decode cX3_add 22 = .ok (.aload_n 0, 1) := by decide +kernel
theorem dX3_add_23 : decode cX3_add 23 = .ok (.iload_n 1, 1) := by decide +kernel
theorem dX3_add_24 : decode cX3_add 24 = .ok (.putfield 28, 3) := by decide +kernel
theorem dX3_add_27 : decode cX3_add 27 = .ok (.aload_n 0, 1) := by decide +kernel
theorem dX3_add_28 : decode cX3_add 28 = .ok (.iload_n 2, 1) := by decide +kernel
theorem dX3_add_29 : decode cX3_add 29 = .ok (.putfield 31, 3) := by decide +kernel
theorem dX3_add_32 : decode cX3_add 32 = .ok (.goto 27, 3) := by decide +kernel
theorem dX3_add_35 : decode cX3_add 35 = .ok (.aload_n 0, 1) := by decide +kernel
theorem dX3_add_36 : decode cX3_add 36 = .ok (.getfield 18, 3) := by decide +kernel
theorem dX3_add_39 : decode cX3_add 39 = .ok (.aload_n 0, 1) := by decide +kernel
theorem dX3_add_40 : decode cX3_add 40 = .ok (.getfield 24, 3) := by decide +kernel
theorem dX3_add_43 : decode cX3_add 43 = .ok (.iconst 1, 1) := by decide +kernel
theorem dX3_add_44 : decode cX3_add 44 = .ok (.isub, 1) := by decide +kernel
theorem dX3_add_45 : decode cX3_add 45 = .ok (.iload_n 1, 1) := by decide +kernel
theorem dX3_add_46 : decode cX3_add 46 = .ok (.iastore, 1) := by decide +kernel
theorem dX3_add_47 : decode cX3_add 47 = .ok (.aload_n 0, 1) := by decide +kernel
theorem dX3_add_48 : decode cX3_add 48 = .ok (.getfield 21, 3) := by decide +kernel
theorem dX3_add_51 : decode cX3_add 51 = .ok (.aload_n 0, 1) := by decide +kernel
theorem dX3_add_52 : decode cX3_add 52 = .ok (.getfield 24, 3) := by decide +kernel
theorem dX3_add_55 : decode cX3_add 55 = .ok (.iconst 1, 1) := by decide +kernel
theorem dX3_add_56 : decode cX3_add 56 = .ok (.isub, 1) := by decide +kernel
theorem dX3_add_57 : decode cX3_add 57 = .ok (.iload_n 2, 1) := by decide +kernel
theorem dX3_add_58 : decode cX3_add 58 = .ok (.iastore, 1) := by decide +kernel
theorem dX3_add_59 : decode cX3_add 59 = .ok (.aload_n 0, 1) := by decide +kernel
theorem dX3_add_60 : decode cX3_add 60 = .ok (.getfield 9, 3) := by decide +kernel
theorem dX3_add_63 : decode cX3_add 63 = .ok (.aload_n 0, 1) := by decide +kernel
theorem dX3_add_64 : decode cX3_add 64 = .ok (.getfield 24, 3) := by decide +kernel
theorem dX3_add_67 : decode cX3_add 67 = .ok (.iload_n 1, 1) := by decide +kernel
theorem dX3_add_68 : decode cX3_add 68 = .ok (.iastore, 1) := by decide +kernel
theorem dX3_add_69 : decode cX3_add 69 = .ok (.aload_n 0, 1) := by decide +kernel
theorem dX3_add_70 : decode cX3_add 70 = .ok (.getfield 15, 3) := by decide +kernel
theorem dX3_add_73 : decode cX3_add 73 = .ok (.aload_n 0, 1) := by decide +kernel
theorem dX3_add_74 : decode cX3_add 74 = .ok (.getfield 24, 3) := by decide +kernel
theorem dX3_add_77 : decode cX3_add 77 = .ok (.iload_n 2, 1) := by decide +kernel
theorem dX3_add_78 : decode cX3_add 78 = .ok (.iastore, 1) := by decide +kernel
theorem dX3_add_79 : decode cX3_add 79 = .ok (.aload_n 0, 1) := by decide +kernel
theorem dX3_add_80 : decode cX3_add 80 = .ok (.getfield 18, 3) := by decide +kernel
theorem dX3_add_83 : decode cX3_add 83 = .ok (.aload_n 0, 1) := by decide +kernel
theorem dX3_add_84 : decode cX3_add 84 = .ok (.getfield 24, 3) := by decide +kernel
theorem dX3_add_87 : decode cX3_add 87 = .ok (.aload_n 0, 1) := by decide +kernel
theorem dX3_add_88 : decode cX3_add 88 = .ok (.getfield 28, 3) := by decide +kernel
theorem dX3_add_91 : decode cX3_add 91 = .ok (.iastore, 1) := by decide +kernel
theorem dX3_add_92 : decode cX3_add 92 = .ok (.aload_n 0, 1) := by decide +kernel
theorem dX3_add_93 : decode cX3_add 93 = .ok (.getfield 21, 3) := by decide +kernel
theorem dX3_add_96 : decode cX3_add 96 = .ok (.aload_n 0, 1) := by decide +kernel
theorem dX3_add_97 : decode cX3_add 97 = .ok (.getfield 24, 3) := by decide +kernel
theorem dX3_add_100 : decode cX3_add 100 = .ok (.aload_n 0, 1) := by decide +kernel
theorem dX3_add_101 : decode cX3_add 101 = .ok (.getfield 31, 3) := by decide +kernel
theorem dX3_add_104 : decode cX3_add 104 = .ok (.iastore, 1) := by decide +kernel
theorem dX3_add_105 : decode cX3_add 105 = .ok (.aload_n 0, 1) := by decide +kernel
theorem dX3_add_106 : decode cX3_add 106 = .ok (.dup, 1) := by decide +kernel
theorem dX3_add_107 : decode cX3_add 107 = .ok (.getfield 24, 3) := by decide +kernel
theorem dX3_add_110 : decode cX3_add 110 = .ok (.iconst 1, 1) := by decide +kernel
theorem dX3_add_111 : decode cX3_add 111 = .ok (.iadd, 1) := by decide +kernel
theorem dX3_add_112 : decode cX3_add 112 = .ok (.putfield 24, 3) := by decide +kernel
theorem dX3_add_115 : decode cX3_add 115 = .ok (.iconst 1, 1) := by decide +kernel
theorem dX3_add_116 : decode cX3_add 116 = .ok (.ireturn, 1) := by decide +kernel
theorem dX3_windingAt_0 : decode cX3_windingAt 0 = .ok (.iconst 0, 1) := by decide +kernel
theorem dX3_windingAt_1 : decode cX3_windingAt 1 = .ok (.istore_n 3, 1) := by decide +kernel
theorem dX3_windingAt_2 : decode cX3_windingAt 2 = .ok (.iconst 0, 1) := by decide +kernel
theorem dX3_windingAt_3 : decode cX3_windingAt 3 = .ok (.istore 4, 2) := by decide +kernel
theorem dX3_windingAt_5 : decode cX3_windingAt 5 = .ok (.iload 4, 2) := by decide +kernel
theorem dX3_windingAt_7 : decode cX3_windingAt 7 = .ok (.aload_n 0, 1) := by decide +kernel
theorem dX3_windingAt_8 : decode cX3_windingAt 8 = .ok (.getfield 24, 3) := by decide +kernel
theorem dX3_windingAt_11 : decode cX3_windingAt 11 = .ok (.if_icmp .ge 39, 3) := by decide +kernel
theorem dX3_windingAt_14 : decode cX3_windingAt 14 = .ok (.aload_n 0, 1) := by decide +kernel
theorem dX3_windingAt_15 : decode cX3_windingAt 15 = .ok (.iload 4, 2) := by decide +kernel
theorem dX3_windingAt_17 : decode cX3_windingAt 17 = .ok (.iload_n 2, 1) := by decide +kernel
theorem dX3_windingAt_18 : decode cX3_windingAt 18 = .ok (.invokevirtual 34, 3) := by decide +kernel
theorem dX3_windingAt_21 : decode cX3_windingAt 21 = .ok (.istore 5, 2) := by decide +kernel
theorem dX3_windingAt_23 : decode cX3_windingAt 23 = .ok (.iload 5, 2) := by decide +kernel
theorem dX3_windingAt_25 : decode cX3_windingAt 25 = .ok (.ifCond .eq 19, 3) := by decide +kernel
theorem dX3_windingAt_28 : decode cX3_windingAt 28 = .ok (.aload_n 0, 1) := by decide +kernel
theorem dX3_windingAt_29 : decode cX3_windingAt 29 = .ok (.iload 4, 2) := by decide +kernel
theorem dX3_windingAt_31 : decode cX3_windingAt 31 = .ok (.iload_n 2, 1) := by decide +kernel
theorem dX3_windingAt_32 : decode cX3_windingAt 32 = .ok (.invokevirtual 38, 3) := by decide +kernel
theorem dX3_windingAt_35 : decode cX3_windingAt 35 = .ok (.iload_n 1, 1) := by decide +kernel
theorem dX3_windingAt_36 : decode cX3_windingAt 36 = .ok (.if_icmp .gt 8, 3) := by decide +kernel
theorem dX3_windingAt_39 : decode cX3_windingAt 39 = .ok (.iload_n 3, 1) := by decide +kernel
theorem dX3_windingAt_40 : decode cX3_windingAt 40 = .ok (.iload 5, 2) := by decide +kernel
theorem dX3_windingAt_42 : decode cX3_windingAt 42 = .ok (.iadd, 1) := by decide +kernel
theorem dX3_windingAt_43 : decode cX3_windingAt 43 = .ok (.istore_n 3, 1) := by decide +kernel
theorem dX3_windingAt_44 : decode cX3_windingAt 44 = .ok (.iinc 4 1, 3) := by decide +kernel
theorem dX3_windingAt_47 : decode cX3_windingAt 47 = .ok (.goto (-42), 3) := by decide +kernel
theorem dX3_windingAt_50 : decode cX3_windingAt 50 = .ok (.iload_n 3, 1) := by decide +kernel
theorem dX3_windingAt_51 : decode cX3_windingAt 51 = .ok (.ireturn, 1) := by decide +kernel
theorem dX3_windRow_0 : decode cX3_windRow 0 = .ok (.iload 4, 2) := by decide +kernel
theorem dX3_windRow_2 : decode cX3_windRow 2 = .ok (.aload_n 3, 1) := by decide +kernel
theorem dX3_windRow_3 : decode cX3_windRow 3 = .ok (.arraylength, 1) := by decide +kernel
theorem dX3_windRow_4 : decode cX3_windRow 4 = .ok (.invokestatic 41, 3) := by decide +kernel
theorem dX3_windRow_7 : decode cX3_windRow 7 = .ok (.istore 5, 2) := by decide +kernel
theorem dX3_windRow_9 : decode cX3_windRow 9 = .ok (.aload_n 3, 1) := by decide +kernel
theorem dX3_windRow_10 : decode cX3_windRow 10 = .ok (.iconst 0, 1) := by decide +kernel
theorem dX3_windRow_11 : decode cX3_windRow 11 = .ok (.invokestatic 46, 3) := by decide +kernel
theorem dX3_windRow_14 : decode cX3_windRow 14 = .ok (.iconst 1, 1) := by decide +kernel
theorem dX3_windRow_15 : decode cX3_windRow 15 = .ok (.iload_n 2, 1) := by decide +kernel
theorem dX3_windRow_16 : decode cX3_windRow 16 = .ok (.ishl, 1) := by decide +kernel
theorem dX3_windRow_17 : decode cX3_windRow 17 = .ok (.iconst 2, 1) := by decide +kernel
theorem dX3_windRow_18 : decode cX3_windRow 18 = .ok (.idiv, 1) := by decide +kernel
theorem dX3_windRow_19 : decode cX3_windRow 19 = .ok (.istore 6, 2) := by decide +kernel
theorem dX3_windRow_21 : decode cX3_windRow 21 = .ok (.iconst 0, 1) := by decide +kernel
theorem dX3_windRow_22 : decode cX3_windRow 22 = .ok (.istore 7, 2) := by decide +kernel
theorem dX3_windRow_24 : decode cX3_windRow 24 = .ok (.iload 7, 2) := by decide +kernel
theorem dX3_windRow_26 : decode cX3_windRow 26 = .ok (.aload_n 0, 1) := by decide +kernel
theorem dX3_windRow_27 : decode cX3_windRow 27 = .ok (.getfield 24, 3) := by decide +kernel
theorem dX3_windRow_30 : decode cX3_windRow 30 = .ok (.if_icmp .ge 59, 3) := by decide +kernel
theorem dX3_windRow_33 : decode cX3_windRow 33 = .ok (.aload_n 0, 1) := by decide +kernel
theorem dX3_windRow_34 : decode cX3_windRow 34 = .ok (.iload 7, 2) := by decide +kernel
theorem dX3_windRow_36 : decode cX3_windRow 36 = .ok (.iload_n 1, 1) := by decide +kernel
theorem dX3_windRow_37 : decode cX3_windRow 37 = .ok (.invokevirtual 34, 3) := by decide +kernel
theorem dX3_windRow_40 : decode cX3_windRow 40 = .ok (.istore 8, 2) := by decide +kernel
theorem dX3_windRow_42 : decode cX3_windRow 42 = .ok (.iload 8, 2) := by decide +kernel
theorem dX3_windRow_44 : decode cX3_windRow 44 = .ok (.ifCond .eq 39, 3) := by decide +kernel
theorem dX3_windRow_47 : decode cX3_windRow 47 = .ok (.iconst 0, 1) := by decide +kernel
theorem dX3_windRow_48 : decode cX3_windRow 48 = .ok (.aload_n 0, 1) := by decide +kernel
theorem dX3_windRow_49 : decode cX3_windRow 49 = .ok (.iload 7, 2) := by decide +kernel
theorem dX3_windRow_51 : decode cX3_windRow 51 = .ok (.iload_n 1, 1) := by decide +kernel
theorem dX3_windRow_52 : decode cX3_windRow 52 = .ok (.invokevirtual 38, 3) := by decide +kernel
theorem dX3_windRow_55 : decode cX3_windRow 55 = .ok (.iload 6, 2) := by decide +kernel
theorem dX3_windRow_57 : decode cX3_windRow 57 = .ok (.iadd, 1) := by decide +kernel
theorem dX3_windRow_58 : decode cX3_windRow 58 = .ok (.iconst 1, 1) := by decide +kernel
theorem dX3_windRow_59 : decode cX3_windRow 59 = .ok (.isub, 1) := by decide +kernel
theorem dX3_windRow_60 : decode cX3_windRow 60 = .ok (.iload_n 2, 1) := by decide +kernel
theorem dX3_windRow_61 : decode cX3_windRow 61 = .ok (.ishr, 1) := by decide +kernel
theorem dX3_windRow_62 : decode cX3_windRow 62 = .ok (.invokestatic 52, 3) := by decide +kernel
theorem dX3_windRow_65 : decode cX3_windRow 65 = .ok (.istore 9, 2) := by decide +kernel
theorem dX3_windRow_67 : decode cX3_windRow 67 = .ok (.iload 9, 2) := by decide +kernel
theorem dX3_windRow_69 : decode cX3_windRow 69 = .ok (.iload 5, 2) := by decide +kernel
theorem dX3_windRow_71 : decode cX3_windRow 71 = .ok (.if_icmp .ge 12, 3) := by decide +kernel
theorem dX3_windRow_74 : decode cX3_windRow 74 = .ok (.aload_n 3, 1) := by decide +kernel
theorem dX3_windRow_75 : decode cX3_windRow 75 = .ok (.iload 9, 2) := by decide +kernel
theorem dX3_windRow_77 : decode cX3_windRow 77 = .ok (.dup2, 1) := by decide +kernel
theorem dX3_windRow_78 : decode cX3_windRow 78 = .ok (.iaload, 1) := by decide +kernel
theorem dX3_windRow_79 : decode cX3_windRow 79 = .ok (.iload 8, 2) := by decide +kernel
theorem dX3_windRow_81 : decode cX3_windRow 81 = .ok (.iadd, 1) := by decide +kernel
theorem dX3_windRow_82 : decode cX3_windRow 82 = .ok (.iastore, 1) := by decide +kernel
theorem dX3_windRow_83 : decode cX3_windRow 83 = .ok (.iinc 7 1, 3) := by decide +kernel
theorem dX3_windRow_86 : decode cX3_windRow 86 = .ok (.goto (-62), 3) := by decide +kernel
theorem dX3_windRow_89 : decode cX3_windRow 89 = .ok (.iconst 1, 1) := by decide +kernel
theorem dX3_windRow_90 : decode cX3_windRow 90 = .ok (.istore 7, 2) := by decide +kernel
theorem dX3_windRow_92 : decode cX3_windRow 92 = .ok (.iload 7, 2) := by decide +kernel
theorem dX3_windRow_94 : decode cX3_windRow 94 = .ok (.iload 5, 2) := by decide +kernel
theorem dX3_windRow_96 : decode cX3_windRow 96 = .ok (.if_icmp .ge 22, 3) := by decide +kernel
theorem dX3_windRow_99 : decode cX3_windRow 99 = .ok (.aload_n 3, 1) := by decide +kernel
theorem dX3_windRow_100 : decode cX3_windRow 100 = .ok (.iload 7, 2) := by decide +kernel
theorem dX3_windRow_102 : decode cX3_windRow 102 = .ok (.dup2, 1) := by decide +kernel
theorem dX3_windRow_103 : decode cX3_windRow 103 = .ok (.iaload, 1) := by decide +kernel
theorem dX3_windRow_104 : decode cX3_windRow 104 = .ok (.aload_n 3, 1) := by decide +kernel
theorem dX3_windRow_105 : decode cX3_windRow 105 = .ok (.iload 7, 2) := by decide +kernel
theorem dX3_windRow_107 : decode cX3_windRow 107 = .ok (.iconst 1, 1) := by decide +kernel
theorem dX3_windRow_108 : decode cX3_windRow 108 = .ok (.isub, 1) := by decide +kernel
theorem dX3_windRow_109 : decode cX3_windRow 109 = .ok (.iaload, 1) := by decide +kernel
theorem dX3_windRow_110 : decode cX3_windRow 110 = .ok (.iadd, 1) := by decide +kernel
theorem dX3_windRow_111 : decode cX3_windRow 111 = .ok (.iastore, 1) := by decide +kernel
theorem dX3_windRow_112 : decode cX3_windRow 112 = .ok (.iinc 7 1, 3) := by decide +kernel
theorem dX3_windRow_115 : decode cX3_windRow 115 = .ok (.goto (-23), 3) := by decide +kernel
theorem dX3_windRow_118 : decode cX3_windRow 118 = .ok (.return_, 1) := by decide +kernel
theorem dX3_turnOf_0 : decode cX3_turnOf 0 = .ok (.aload_n 0, 1) := by decide +kernel
theorem dX3_turnOf_1 : decode cX3_turnOf 1 = .ok (.getfield 15, 3) := by decide +kernel
theorem dX3_turnOf_4 : decode cX3_turnOf 4 = .ok (.iload_n 1, 1) := by decide +kernel
theorem dX3_turnOf_5 : decode cX3_turnOf 5 = .ok (.iaload, 1) := by decide +kernel
theorem dX3_turnOf_6 : decode cX3_turnOf 6 = .ok (.iload_n 2, 1) := by decide +kernel
theorem dX3_turnOf_7 : decode cX3_turnOf 7 = .ok (.if_icmp .gt 15, 3) := by decide +kernel
theorem dX3_turnOf_10 : decode cX3_turnOf 10 = .ok (.iload_n 2, 1) := by decide +kernel
theorem dX3_turnOf_11 : decode cX3_turnOf 11 = .ok (.aload_n 0, 1) := by decide +kernel
theorem dX3_turnOf_12 : decode cX3_turnOf 12 = .ok (.getfield 21, 3) := by decide +kernel
theorem dX3_turnOf_15 : decode cX3_turnOf 15 = .ok (.iload_n 1, 1) := by decide +kernel
theorem dX3_turnOf_16 : decode cX3_turnOf 16 = .ok (.iaload, 1) := by decide +kernel
theorem dX3_turnOf_17 : decode cX3_turnOf 17 = .ok (.if_icmp .ge 5, 3) := by decide +kernel
theorem dX3_turnOf_20 : decode cX3_turnOf 20 = .ok (.iconst 1, 1) := by decide +kernel
theorem dX3_turnOf_21 : decode cX3_turnOf 21 = .ok (.ireturn, 1) := by decide +kernel
theorem dX3_turnOf_22 : decode cX3_turnOf 22 = .ok (.aload_n 0, 1) := by decide +kernel
theorem dX3_turnOf_23 : decode cX3_turnOf 23 = .ok (.getfield 21, 3) := by decide +kernel
theorem dX3_turnOf_26 : decode cX3_turnOf 26 = .ok (.iload_n 1, 1) := by decide +kernel
theorem dX3_turnOf_27 : decode cX3_turnOf 27 = .ok (.iaload, 1) := by decide +kernel
theorem dX3_turnOf_28 : decode cX3_turnOf 28 = .ok (.iload_n 2, 1) := by decide +kernel
theorem dX3_turnOf_29 : decode cX3_turnOf 29 = .ok (.if_icmp .gt 17, 3) := by decide +kernel
theorem dX3_turnOf_32 : decode cX3_turnOf 32 = .ok (.iload_n 2, 1) := by decide +kernel
theorem dX3_turnOf_33 : decode cX3_turnOf 33 = .ok (.aload_n 0, 1) := by decide +kernel
theorem dX3_turnOf_34 : decode cX3_turnOf 34 = .ok (.getfield 15, 3) := by decide +kernel
theorem dX3_turnOf_37 : decode cX3_turnOf 37 = .ok (.iload_n 1, 1) := by decide +kernel
theorem dX3_turnOf_38 : decode cX3_turnOf 38 = .ok (.iaload, 1) := by decide +kernel
theorem dX3_turnOf_39 : decode cX3_turnOf 39 = .ok (.if_icmp .ge 7, 3) := by decide +kernel
theorem dX3_turnOf_42 : decode cX3_turnOf 42 = .ok (.iconst (-1), 1) := by decide +kernel
theorem dX3_turnOf_43 : decode cX3_turnOf 43 = .ok (.goto 4, 3) := by decide +kernel
theorem dX3_turnOf_46 : decode cX3_turnOf 46 = .ok (.iconst 0, 1) := by decide +kernel
theorem dX3_turnOf_47 : decode cX3_turnOf 47 = .ok (.ireturn, 1) := by decide +kernel
theorem dX3_firstRightOf_0 : decode cX3_firstRightOf 0 = .ok (.aload_n 0, 1) := by decide +kernel
theorem dX3_firstRightOf_1 : decode cX3_firstRightOf 1 = .ok (.getfield 21, 3) := by decide +kernel
theorem dX3_firstRightOf_4 : decode cX3_firstRightOf 4 = .ok (.iload_n 1, 1) := by decide +kernel
theorem dX3_firstRightOf_5 : decode cX3_firstRightOf 5 = .ok (.iaload, 1) := by decide +kernel
theorem dX3_firstRightOf_6 : decode cX3_firstRightOf 6 = .ok (.aload_n 0, 1) := by decide +kernel
theorem dX3_firstRightOf_7 : decode cX3_firstRightOf 7 = .ok (.getfield 15, 3) := by decide +kernel
theorem dX3_firstRightOf_10 : decode cX3_firstRightOf 10 = .ok (.iload_n 1, 1) := by decide +kernel
theorem dX3_firstRightOf_11 : decode cX3_firstRightOf 11 = .ok (.iaload, 1) := by decide +kernel
theorem dX3_firstRightOf_12 : decode cX3_firstRightOf 12 = .ok (.isub, 1) := by decide +kernel
theorem dX3_firstRightOf_13 : decode cX3_firstRightOf 13 = .ok (.istore_n 3, 1) := by decide +kernel
theorem dX3_firstRightOf_14 : decode cX3_firstRightOf 14 = .ok (.iload_n 3, 1) := by decide +kernel
theorem dX3_firstRightOf_15 : decode cX3_firstRightOf 15 = .ok (.ifCond .ne 10, 3) := by decide +kernel
theorem dX3_firstRightOf_18 : decode cX3_firstRightOf 18 = .ok (.aload_n 0, 1) := by decide +kernel
theorem dX3_firstRightOf_19 : decode cX3_firstRightOf 19 = .ok (.getfield 9, 3) := by decide +kernel
theorem dX3_firstRightOf_22 : decode cX3_firstRightOf 22 = .ok (.iload_n 1, 1) := by decide +kernel
theorem dX3_firstRightOf_23 : decode cX3_firstRightOf 23 = .ok (.iaload, 1) := by decide +kernel
theorem dX3_firstRightOf_24 : decode cX3_firstRightOf 24 = .ok (.ireturn, 1) := by decide +kernel
theorem dX3_firstRightOf_25 : decode cX3_firstRightOf 25 = .ok (.aload_n 0, 1) := by decide +kernel
theorem dX3_firstRightOf_26 : decode cX3_firstRightOf 26 = .ok (.getfield 9, 3) := by decide +kernel
theorem dX3_firstRightOf_29 : decode cX3_firstRightOf 29 = .ok (.iload_n 1, 1) := by decide +kernel
theorem dX3_firstRightOf_30 : decode cX3_firstRightOf 30 = .ok (.iaload, 1) := by decide +kernel
theorem dX3_firstRightOf_31 : decode cX3_firstRightOf 31 = .ok (.aload_n 0, 1) := by decide +kernel
theorem dX3_firstRightOf_32 : decode cX3_firstRightOf 32 = .ok (.getfield 9, 3) := by decide +kernel
theorem dX3_firstRightOf_35 : decode cX3_firstRightOf 35 = .ok (.iload_n 1, 1) := by decide +kernel
theorem dX3_firstRightOf_36 : decode cX3_firstRightOf 36 = .ok (.iaload, 1) := by decide +kernel
theorem dX3_firstRightOf_37 : decode cX3_firstRightOf 37 = .ok (.aload_n 0, 1) := by decide +kernel
theorem dX3_firstRightOf_38 : decode cX3_firstRightOf 38 = .ok (.getfield 18, 3) := by decide +kernel
theorem dX3_firstRightOf_41 : decode cX3_firstRightOf 41 = .ok (.iload_n 1, 1) := by decide +kernel
theorem dX3_firstRightOf_42 : decode cX3_firstRightOf 42 = .ok (.iaload, 1) := by decide +kernel
theorem dX3_firstRightOf_43 : decode cX3_firstRightOf 43 = .ok (.isub, 1) := by decide +kernel
theorem dX3_firstRightOf_44 : decode cX3_firstRightOf 44 = .ok (.iload_n 2, 1) := by decide +kernel
theorem dX3_firstRightOf_45 : decode cX3_firstRightOf 45 = .ok (.aload_n 0, 1) := by decide +kernel
theorem dX3_firstRightOf_46 : decode cX3_firstRightOf 46 = .ok (.getfield 15, 3) := by decide +kernel
theorem dX3_firstRightOf_49 : decode cX3_firstRightOf 49 = .ok (.iload_n 1, 1) := by decide +kernel
theorem dX3_firstRightOf_50 : decode cX3_firstRightOf 50 = .ok (.iaload, 1) := by decide +kernel
theorem dX3_firstRightOf_51 : decode cX3_firstRightOf 51 = .ok (.isub, 1) := by decide +kernel
theorem dX3_firstRightOf_52 : decode cX3_firstRightOf 52 = .ok (.imul, 1) := by decide +kernel
theorem dX3_firstRightOf_53 : decode cX3_firstRightOf 53 = .ok (.iload_n 3, 1) := by decide +kernel
theorem dX3_firstRightOf_54 : decode cX3_firstRightOf 54 = .ok (.invokestatic 55, 3) := by decide +kernel
theorem dX3_firstRightOf_57 : decode cX3_firstRightOf 57 = .ok (.isub, 1) := by decide +kernel
theorem dX3_firstRightOf_58 : decode cX3_firstRightOf 58 = .ok (.ireturn, 1) := by decide +kernel
theorem dX4_init_0 : decode cX4_init 0 = .ok (.aload_n 0, 1) := by decide +kernel
theorem dX4_init_1 : decode cX4_init 1 = .ok (.invokespecial 3, 3) := by decide +kernel
theorem dX4_init_4 : decode cX4_init 4 = .ok (.aload_n 0, 1) := by decide +kernel
theorem dX4_init_5 : decode cX4_init 5 = .ok (.sipush 256, 3) := by decide +kernel
theorem dX4_init_8 : decode cX4_init 8 = .ok (.newarray .int, 2) := by decide +kernel
theorem dX4_init_10 : decode cX4_init 10 = .ok (.putfield 9, 3) := by decide +kernel
theorem dX4_init_13 : decode cX4_init 13 = .ok (.aload_n 0, 1) := by decide +kernel
theorem dX4_init_14 : decode cX4_init 14 = .ok (.bipush 64, 2) := by decide +kernel
theorem dX4_init_16 : decode cX4_init 16 = .ok (.newarray .int, 2) := by decide +kernel
theorem dX4_init_18 : decode cX4_init 18 = .ok (.putfield 15, 3) := by decide +kernel
theorem dX4_init_21 : decode cX4_init 21 = .ok (.return_, 1) := by decide +kernel
theorem dX4_read_0 : decode cX4_read 0 = .ok (.bipush 32, 2) := by decide +kernel
theorem dX4_read_2 : decode cX4_read 2 = .ok (.iload 4, 2) := by decide +kernel
theorem dX4_read_4 : decode cX4_read 4 = .ok (.ishr, 1) := by decide +kernel
theorem dX4_read_5 : decode cX4_read 5 = .ok (.istore 6, 2) := by decide +kernel
theorem dX4_read_7 : decode cX4_read 7 = .ok (.iconst 1, 1) := by decide +kernel
theorem dX4_read_8 : decode cX4_read 8 = .ok (.iload 4, 2) := by decide +kernel
theorem dX4_read_10 : decode cX4_read 10 = .ok (.ishl, 1) := by decide +kernel
theorem dX4_read_11 : decode cX4_read 11 = .ok (.iconst 2, 1) := by decide +kernel
theorem dX4_read_12 : decode cX4_read 12 = .ok (.idiv, 1) := by decide +kernel
theorem dX4_read_13 : decode cX4_read 13 = .ok (.istore 7, 2) := by decide +kernel
theorem dX4_read_15 : decode cX4_read 15 = .ok (.aload_n 0, 1) := by decide +kernel
theorem dX4_read_16 : decode cX4_read 16 = .ok (.getfield 15, 3) := by decide +kernel
theorem dX4_read_19 : decode cX4_read 19 = .ok (.iconst 0, 1) := by decide +kernel
theorem dX4_read_20 : decode cX4_read 20 = .ok (.invokestatic 18, 3) := by decide +kernel
theorem dX4_read_23 : decode cX4_read 23 = .ok (.iconst 0, 1) := by decide +kernel
theorem dX4_read_24 : decode cX4_read 24 = .ok (.istore 8, 2) := by decide +kernel
theorem dX4_read_26 : decode cX4_read 26 = .ok (.iload 8, 2) := by decide +kernel
theorem dX4_read_28 : decode cX4_read 28 = .ok (.iload 6, 2) := by decide +kernel
theorem dX4_read_30 : decode cX4_read 30 = .ok (.if_icmp .ge 49, 3) := by decide +kernel
theorem dX4_read_33 : decode cX4_read 33 = .ok (.iload_n 2, 1) := by decide +kernel
theorem dX4_read_34 : decode cX4_read 34 = .ok (.bipush 32, 2) := by decide +kernel
theorem dX4_read_36 : decode cX4_read 36 = .ok (.imul, 1) := by decide +kernel
theorem dX4_read_37 : decode cX4_read 37 = .ok (.iload 8, 2) := by decide +kernel
theorem dX4_read_39 : decode cX4_read 39 = .ok (.iload 4, 2) := by decide +kernel
theorem dX4_read_41 : decode cX4_read 41 = .ok (.ishl, 1) := by decide +kernel
theorem dX4_read_42 : decode cX4_read 42 = .ok (.iadd, 1) := by decide +kernel
theorem dX4_read_43 : decode cX4_read 43 = .ok (.iload 7, 2) := by decide +kernel
theorem dX4_read_45 : decode cX4_read 45 = .ok (.iadd, 1) := by decide +kernel
theorem dX4_read_46 : decode cX4_read 46 = .ok (.istore 9, 2) := by decide +kernel
theorem dX4_read_48 : decode cX4_read 48 = .ok (.aload_n 1, 1) := by decide +kernel
theorem dX4_read_49 : decode cX4_read 49 = .ok (.iload 9, 2) := by decide +kernel
theorem dX4_read_51 : decode cX4_read 51 = .ok (.iload 4, 2) := by decide +kernel
theorem dX4_read_53 : decode cX4_read 53 = .ok (.aload_n 0, 1) := by decide +kernel
theorem dX4_read_54 : decode cX4_read 54 = .ok (.getfield 9, 3) := by decide +kernel
theorem dX4_read_57 : decode cX4_read 57 = .ok (.iload_n 3, 1) := by decide +kernel
theorem dX4_read_58 : decode cX4_read 58 = .ok (.iload 6, 2) := by decide +kernel
theorem dX4_read_60 : decode cX4_read 60 = .ok (.imul, 1) := by decide +kernel
theorem dX4_read_61 : decode cX4_read 61 = .ok (.invokevirtual 24, 3) := by decide +kernel
theorem dX4_read_64 : decode cX4_read 64 = .ok (.aload_n 0, 1) := by decide +kernel
theorem dX4_read_65 : decode cX4_read 65 = .ok (.iload_n 3, 1) := by decide +kernel
theorem dX4_read_66 : decode cX4_read 66 = .ok (.iload 6, 2) := by decide +kernel
theorem dX4_read_68 : decode cX4_read 68 = .ok (.iload 5, 2) := by decide +kernel
theorem dX4_read_70 : decode cX4_read 70 = .ok (.invokevirtual 30, 3) := by decide +kernel
theorem dX4_read_73 : decode cX4_read 73 = .ok (.iinc 8 1, 3) := by decide +kernel
theorem dX4_read_76 : decode cX4_read 76 = .ok (.goto (-50), 3) := by decide +kernel
theorem dX4_read_79 : decode cX4_read 79 = .ok (.return_, 1) := by decide +kernel
theorem dX4_coveredAt_0 : decode cX4_coveredAt 0 = .ok (.iload_n 1, 1) := by decide +kernel
theorem dX4_coveredAt_1 : decode cX4_coveredAt 1 = .ok (.ifCond .lt 18, 3) := by decide +kernel
theorem dX4_coveredAt_4 : decode cX4_coveredAt 4 = .ok (.iload_n 1, 1) := by decide +kernel
theorem dX4_coveredAt_5 : decode cX4_coveredAt 5 = .ok (.bipush 64, 2) := by decide +kernel
theorem dX4_coveredAt_7 : decode cX4_coveredAt 7 = .ok (.if_icmp .ge 12, 3) := by decide +kernel
theorem dX4_coveredAt_10 : decode cX4_coveredAt 10 = .ok (.aload_n 0, 1) := by decide +kernel
theorem dX4_coveredAt_11 : decode cX4_coveredAt 11 = .ok (.getfield 15, 3) := by decide +kernel
theorem dX4_coveredAt_14 : decode cX4_coveredAt 14 = .ok (.iload_n 1, 1) := by decide +kernel
theorem dX4_coveredAt_15 : decode cX4_coveredAt 15 = .ok (.iaload, 1) := by decide +kernel
theorem dX4_coveredAt_16 : decode cX4_coveredAt 16 = .ok (.goto 4, 3) := by decide +kernel
theorem dX4_coveredAt_19 : decode cX4_coveredAt 19 = .ok (.iconst 0, 1) := by decide +kernel
theorem dX4_coveredAt_20 : decode cX4_coveredAt 20 = .ok (.ireturn, 1) := by decide +kernel
theorem dX4_addRow_0 : decode cX4_addRow 0 = .ok (.iconst 0, 1) := by decide +kernel
theorem dX4_addRow_1 : decode cX4_addRow 1 = .ok (.istore 4, 2) := by decide +kernel
theorem dX4_addRow_3 : decode cX4_addRow 3 = .ok (.iload 4, 2) := by decide +kernel
theorem dX4_addRow_5 : decode cX4_addRow 5 = .ok (.iload_n 1, 1) := by decide +kernel
theorem dX4_addRow_6 : decode cX4_addRow 6 = .ok (.if_icmp .ge 67, 3) := by decide +kernel
theorem dX4_addRow_9 : decode cX4_addRow 9 = .ok (.iload 4, 2) := by decide +kernel
theorem dX4_addRow_11 : decode cX4_addRow 11 = .ok (.bipush 64, 2) := by decide +kernel
theorem dX4_addRow_13 : decode cX4_addRow 13 = .ok (.if_icmp .ge 60, 3) := by decide +kernel
theorem dX4_addRow_16 : decode cX4_addRow 16 = .ok (.iconst 0, 1) := by decide +kernel
theorem dX4_addRow_17 : decode cX4_addRow 17 = .ok (.istore 5, 2) := by decide +kernel
theorem dX4_addRow_19 : decode cX4_addRow 19 = .ok (.iload 5, 2) := by decide +kernel
theorem dX4_addRow_21 : decode cX4_addRow 21 = .ok (.iload_n 2, 1) := by decide +kernel
theorem dX4_addRow_22 : decode cX4_addRow 22 = .ok (.if_icmp .ge 45, 3) := by decide +kernel
theorem dX4_addRow_25 : decode cX4_addRow 25 = .ok (.iload 5, 2) := by decide +kernel
theorem dX4_addRow_27 : decode cX4_addRow 27 = .ok (.iconst 4, 1) := by decide +kernel
theorem dX4_addRow_28 : decode cX4_addRow 28 = .ok (.if_icmp .ge 39, 3) := by decide +kernel
theorem dX4_addRow_31 : decode cX4_addRow 31 = .ok (.aload_n 0, 1) := by decide +kernel
theorem dX4_addRow_32 : decode cX4_addRow 32 = .ok (.getfield 9, 3) := by decide +kernel
theorem dX4_addRow_35 : decode cX4_addRow 35 = .ok (.iload 4, 2) := by decide +kernel
theorem dX4_addRow_37 : decode cX4_addRow 37 = .ok (.iload_n 2, 1) := by decide +kernel
theorem dX4_addRow_38 : decode cX4_addRow 38 = .ok (.imul, 1) := by decide +kernel
theorem dX4_addRow_39 : decode cX4_addRow 39 = .ok (.iload 5, 2) := by decide +kernel
theorem dX4_addRow_41 : decode cX4_addRow 41 = .ok (.iadd, 1) := by decide +kernel
theorem dX4_addRow_42 : decode cX4_addRow 42 = .ok (.iaload, 1) := by decide +kernel
theorem dX4_addRow_43 : decode cX4_addRow 43 = .ok (.iload_n 3, 1) := by decide +kernel
theorem dX4_addRow_44 : decode cX4_addRow 44 = .ok (.invokestatic 34, 3) := by decide +kernel
theorem dX4_addRow_47 : decode cX4_addRow 47 = .ok (.ifCond .eq 14, 3) := by decide +kernel
theorem dX4_addRow_50 : decode cX4_addRow 50 = .ok (.aload_n 0, 1) := by decide +kernel
theorem dX4_addRow_51 : decode cX4_addRow 51 = .ok (.getfield 15, 3) := by decide +kernel
theorem dX4_addRow_54 : decode cX4_addRow 54 = .ok (.iload 4, 2) := by decide +kernel
theorem dX4_addRow_56 : decode cX4_addRow 56 = .ok (.dup2, 1) := by decide +kernel
theorem dX4_addRow_57 : decode cX4_addRow 57 = .ok (.iaload, 1) := by decide +kernel
theorem dX4_addRow_58 : decode cX4_addRow 58 = .ok (.iconst 1, 1) := by decide +kernel
theorem dX4_addRow_59 : decode cX4_addRow 59 = .ok (.iadd, 1) := by decide +kernel
theorem dX4_addRow_60 : decode cX4_addRow 60 = .ok (.iastore, 1) := by decide +kernel
theorem dX4_addRow_61 : decode cX4_addRow 61 = .ok (.iinc 5 1, 3) := by decide +kernel
theorem dX4_addRow_64 : decode cX4_addRow 64 = .ok (.goto (-45), 3) := by decide +kernel
theorem dX4_addRow_67 : decode cX4_addRow 67 = .ok (.iinc 4 1, 3) := by decide +kernel
theorem dX4_addRow_70 : decode cX4_addRow 70 = .ok (.goto (-67), 3) := by decide +kernel
theorem dX4_addRow_73 : decode cX4_addRow 73 = .ok (.return_, 1) := by decide +kernel
theorem dX5_init_0 : decode cX5_init 0 = .ok (.aload_n 0, 1) := by decide +kernel
theorem dX5_init_1 : decode cX5_init 1 = .ok (.invokespecial 3, 3) := by decide +kernel
theorem dX5_init_4 : decode cX5_init 4 = .ok (.aload_n 0, 1) := by decide +kernel
theorem dX5_init_5 : decode cX5_init 5 = .ok (.sipush 4096, 3) := by decide +kernel
theorem dX5_init_8 : decode cX5_init 8 = .ok (.newarray .int, 2) := by decide +kernel
theorem dX5_init_10 : decode cX5_init 10 = .ok (.putfield 9, 3) := by decide +kernel
theorem dX5_init_13 : decode cX5_init 13 = .ok (.aload_n 0, 1) := by decide +kernel
theorem dX5_init_14 : decode cX5_init 14 = .ok (.iconst 0, 1) := by decide +kernel
theorem dX5_init_15 : decode cX5_init 15 = .ok (.putfield 15, 3) := by decide +kernel
theorem dX5_init_18 : decode cX5_init 18 = .ok (.aload_n 0, 1) := by decide +kernel
theorem dX5_init_19 : decode cX5_init 19 = .ok (.iconst 0, 1) := by decide +kernel
theorem dX5_init_20 : decode cX5_init 20 = .ok (.putfield 19, 3) := by decide +kernel
theorem dX5_init_23 : decode cX5_init 23 = .ok (.return_, 1) := by decide +kernel
theorem dX5_begin_0 : decode cX5_begin 0 = .ok (.aload_n 0, 1) := by decide +kernel
theorem dX5_begin_1 : decode cX5_begin 1 = .ok (.iload_n 1, 1) := by decide +kernel
theorem dX5_begin_2 : decode cX5_begin 2 = .ok (.putfield 15, 3) := by decide +kernel
theorem dX5_begin_5 : decode cX5_begin 5 = .ok (.aload_n 0, 1) := by decide +kernel
theorem dX5_begin_6 : decode cX5_begin 6 = .ok (.iload_n 2, 1) := by decide +kernel
theorem dX5_begin_7 : decode cX5_begin 7 = .ok (.putfield 19, 3) := by decide +kernel
theorem dX5_begin_10 : decode cX5_begin 10 = .ok (.aload_n 0, 1) := by decide +kernel
theorem dX5_begin_11 : decode cX5_begin 11 = .ok (.getfield 9, 3) := by decide +kernel
theorem dX5_begin_14 : decode cX5_begin 14 = .ok (.iconst 0, 1) := by decide +kernel
theorem dX5_begin_15 : decode cX5_begin 15 = .ok (.invokestatic 22, 3) := by decide +kernel
theorem dX5_begin_18 : decode cX5_begin 18 = .ok (.return_, 1) := by decide +kernel
theorem dX5_become_0 : decode cX5_become 0 = .ok (.aload_n 0, 1) := by decide +kernel
theorem dX5_become_1 : decode cX5_become 1 = .ok (.aload_n 1, 1) := by decide +kernel
theorem dX5_become_2 : decode cX5_become 2 = .ok (.getfield 15, 3) := by decide +kernel
theorem dX5_become_5 : decode cX5_become 5 = .ok (.putfield 15, 3) := by decide +kernel
theorem dX5_become_8 : decode cX5_become 8 = .ok (.aload_n 0, 1) := by decide +kernel
theorem dX5_become_9 : decode cX5_become 9 = .ok (.aload_n 1, 1) := by decide +kernel
theorem dX5_become_10 : decode cX5_become 10 = .ok (.getfield 19, 3) := by decide +kernel
theorem dX5_become_13 : decode cX5_become 13 = .ok (.putfield 19, 3) := by decide +kernel
theorem dX5_become_16 : decode cX5_become 16 = .ok (.aload_n 1, 1) := by decide +kernel
theorem dX5_become_17 : decode cX5_become 17 = .ok (.getfield 9, 3) := by decide +kernel
theorem dX5_become_20 : decode cX5_become 20 = .ok (.iconst 0, 1) := by decide +kernel
theorem dX5_become_21 : decode cX5_become 21 = .ok (.aload_n 0, 1) := by decide +kernel
theorem dX5_become_22 : decode cX5_become 22 = .ok (.getfield 9, 3) := by decide +kernel
theorem dX5_become_25 : decode cX5_become 25 = .ok (.iconst 0, 1) := by decide +kernel
theorem dX5_become_26 : decode cX5_become 26 = .ok (.sipush 4096, 3) := by decide +kernel
theorem dX5_become_29 : decode cX5_become 29 = .ok (.invokestatic 28, 3) := by decide +kernel
theorem dX5_become_32 : decode cX5_become 32 = .ok (.return_, 1) := by decide +kernel
theorem dX5_has_0 : decode cX5_has 0 = .ok (.iload_n 1, 1) := by decide +kernel
theorem dX5_has_1 : decode cX5_has 1 = .ok (.ifCond .lt 27, 3) := by decide +kernel
theorem dX5_has_4 : decode cX5_has 4 = .ok (.iload_n 1, 1) := by decide +kernel
theorem dX5_has_5 : decode cX5_has 5 = .ok (.aload_n 0, 1) := by decide +kernel
theorem dX5_has_6 : decode cX5_has 6 = .ok (.getfield 15, 3) := by decide +kernel
theorem dX5_has_9 : decode cX5_has 9 = .ok (.if_icmp .ge 19, 3) := by decide +kernel
theorem dX5_has_12 : decode cX5_has 12 = .ok (.iload_n 2, 1) := by decide +kernel
theorem dX5_has_13 : decode cX5_has 13 = .ok (.ifCond .lt 15, 3) := by decide +kernel
theorem dX5_has_16 : decode cX5_has 16 = .ok (.iload_n 2, 1) := by decide +kernel
theorem dX5_has_17 : decode cX5_has 17 = .ok (.aload_n 0, 1) := by decide +kernel
theorem dX5_has_18 : decode cX5_has 18 = .ok (.getfield 19, 3) := by decide +kernel
theorem dX5_has_21 : decode cX5_has 21 = .ok (.if_icmp .ge 7, 3) := by decide +kernel
theorem dX5_has_24 : decode cX5_has 24 = .ok (.iconst 1, 1) := by decide +kernel
theorem dX5_has_25 : decode cX5_has 25 = .ok (.goto 4, 3) := by decide +kernel
theorem dX5_has_28 : decode cX5_has 28 = .ok (.iconst 0, 1) := by decide +kernel
theorem dX5_has_29 : decode cX5_has 29 = .ok (.ireturn, 1) := by decide +kernel
theorem dX5_at_0 : decode cX5_at 0 = .ok (.aload_n 0, 1) := by decide +kernel
theorem dX5_at_1 : decode cX5_at 1 = .ok (.iload_n 1, 1) := by decide +kernel
theorem dX5_at_2 : decode cX5_at 2 = .ok (.iload_n 2, 1) := by decide +kernel
theorem dX5_at_3 : decode cX5_at 3 = .ok (.invokevirtual 34, 3) := by decide +kernel
theorem dX5_at_6 : decode cX5_at 6 = .ok (.ifCond .eq 17, 3) := by decide +kernel
theorem dX5_at_9 : decode cX5_at 9 = .ok (.aload_n 0, 1) := by decide +kernel
theorem dX5_at_10 : decode cX5_at 10 = .ok (.getfield 9, 3) := by decide +kernel
theorem dX5_at_13 : decode cX5_at 13 = .ok (.iload_n 2, 1) := by decide +kernel
theorem dX5_at_14 : decode cX5_at 14 = .ok (.bipush 64, 2) := by decide +kernel
theorem dX5_at_16 : decode cX5_at 16 = .ok (.imul, 1) := by decide +kernel
theorem dX5_at_17 : decode cX5_at 17 = .ok (.iload_n 1, 1) := by decide +kernel
theorem dX5_at_18 : decode cX5_at 18 = .ok (.iadd, 1) := by decide +kernel
theorem dX5_at_19 : decode cX5_at 19 = .ok (.iaload, 1) := by decide +kernel
theorem dX5_at_20 : decode cX5_at 20 = .ok (.goto 4, 3) := by decide +kernel
theorem dX5_at_23 : decode cX5_at 23 = .ok (.iconst 0, 1) := by decide +kernel
theorem dX5_at_24 : decode cX5_at 24 = .ok (.ireturn, 1) := by decide +kernel
theorem dX5_put_0 : decode cX5_put 0 = .ok (.aload_n 0, 1) := by decide +kernel
theorem dX5_put_1 : decode cX5_put 1 = .ok (.iload_n 1, 1) := by decide +kernel
theorem dX5_put_2 : decode cX5_put 2 = .ok (.iload_n 2, 1) := by decide +kernel
theorem dX5_put_3 : decode cX5_put 3 = .ok (.invokevirtual 34, 3) := by decide +kernel
theorem dX5_put_6 : decode cX5_put 6 = .ok (.ifCond .eq 15, 3) := by decide +kernel
theorem dX5_put_9 : decode cX5_put 9 = .ok (.aload_n 0, 1) := by decide +kernel
theorem dX5_put_10 : decode cX5_put 10 = .ok (.getfield 9, 3) := by decide +kernel
theorem dX5_put_13 : decode cX5_put 13 = .ok (.iload_n 2, 1) := by decide +kernel
theorem dX5_put_14 : decode cX5_put 14 = .ok (.bipush 64, 2) := by decide +kernel
theorem dX5_put_16 : decode cX5_put 16 = .ok (.imul, 1) := by decide +kernel
theorem dX5_put_17 : decode cX5_put 17 = .ok (.iload_n 1, 1) := by decide +kernel
theorem dX5_put_18 : decode cX5_put 18 = .ok (.iadd, 1) := by decide +kernel
theorem dX5_put_19 : decode cX5_put 19 = .ok (.iload_n 3, 1) := by decide +kernel
theorem dX5_put_20 : decode cX5_put 20 = .ok (.iastore, 1) := by decide +kernel
theorem dX5_put_21 : decode cX5_put 21 = .ok (.return_, 1) := by decide +kernel
theorem dX5_channelSum_0 : decode cX5_channelSum 0 = .ok (.iconst 0, 1) := by decide +kernel
theorem dX5_channelSum_1 : decode cX5_channelSum 1 = .ok (.istore_n 2, 1) := by decide +kernel
theorem dX5_channelSum_2 : decode cX5_channelSum 2 = .ok (.iconst 0, 1) := by decide +kernel
theorem dX5_channelSum_3 : decode cX5_channelSum 3 = .ok (.istore_n 3, 1) := by decide +kernel
theorem dX5_channelSum_4 : decode cX5_channelSum 4 = .ok (.iload_n 3, 1) := by decide +kernel
theorem dX5_channelSum_5 : decode cX5_channelSum 5 = .ok (.aload_n 0, 1) := by decide +kernel
theorem dX5_channelSum_6 : decode cX5_channelSum 6 = .ok (.getfield 19, 3) := by decide +kernel
theorem dX5_channelSum_9 : decode cX5_channelSum 9 = .ok (.if_icmp .ge 41, 3) := by decide +kernel
theorem dX5_channelSum_12 : decode cX5_channelSum 12 = .ok (.iconst 0, 1) := by decide +kernel
theorem dX5_channelSum_13 : decode cX5_channelSum 13 = .ok (.istore 4, 2) := by decide +kernel
theorem dX5_channelSum_15 : decode cX5_channelSum 15 = .ok (.iload 4, 2) := by decide +kernel
theorem dX5_channelSum_17 : decode cX5_channelSum 17 = .ok (.aload_n 0, 1) := by decide +kernel
theorem dX5_channelSum_18 : decode cX5_channelSum 18 = .ok (.getfield 15, 3) := by decide +kernel
theorem dX5_channelSum_21 : decode cX5_channelSum 21 = .ok (.if_icmp .ge 23, 3) := by decide +kernel
theorem dX5_channelSum_24 : decode cX5_channelSum 24 = .ok (.iload_n 2, 1) := by decide +kernel
theorem dX5_channelSum_25 : decode cX5_channelSum 25 = .ok (.aload_n 0, 1) := by decide +kernel
theorem dX5_channelSum_26 : decode cX5_channelSum 26 = .ok (.iload 4, 2) := by decide +kernel
theorem dX5_channelSum_28 : decode cX5_channelSum 28 = .ok (.iload_n 3, 1) := by decide +kernel
theorem dX5_channelSum_29 : decode cX5_channelSum 29 = .ok (.invokevirtual 38, 3) := by decide +kernel
theorem dX5_channelSum_32 : decode cX5_channelSum 32 = .ok (.iload_n 1, 1) := by decide +kernel
theorem dX5_channelSum_33 : decode cX5_channelSum 33 = .ok (.invokestatic 42, 3) := by decide +kernel
theorem dX5_channelSum_36 : decode cX5_channelSum 36 = .ok (.iadd, 1) := by decide +kernel
theorem dX5_channelSum_37 : decode cX5_channelSum 37 = .ok (.istore_n 2, 1) := by decide +kernel
theorem dX5_channelSum_38 : decode cX5_channelSum 38 = .ok (.iinc 4 1, 3) := by decide +kernel
theorem dX5_channelSum_41 : decode cX5_channelSum 41 = .ok (.goto (-26), 3) := by decide +kernel
theorem dX5_channelSum_44 : decode cX5_channelSum 44 = .ok (.iinc 3 1, 3) := by decide +kernel
theorem dX5_channelSum_47 : decode cX5_channelSum 47 = .ok (.goto (-43), 3) := by decide +kernel
theorem dX5_channelSum_50 : decode cX5_channelSum 50 = .ok (.iload_n 2, 1) := by decide +kernel
theorem dX5_channelSum_51 : decode cX5_channelSum 51 = .ok (.ireturn, 1) := by decide +kernel
theorem dX5_boxSide_0 : decode cX5_boxSide 0 = .ok (.iconst (-1), 1) := by decide +kernel
theorem dX5_boxSide_1 : decode cX5_boxSide 1 = .ok (.istore_n 3, 1) := by decide +kernel
theorem dX5_boxSide_2 : decode cX5_boxSide 2 = .ok (.iconst (-1), 1) := by decide +kernel
theorem dX5_boxSide_3 : decode cX5_boxSide 3 = .ok (.istore 4, 2) := by decide +kernel
theorem dX5_boxSide_5 : decode cX5_boxSide 5 = .ok (.iconst 0, 1) := by decide +kernel
theorem dX5_boxSide_6 : decode cX5_boxSide 6 = .ok (.istore 5, 2) := by decide +kernel
theorem dX5_boxSide_8 : decode cX5_boxSide 8 = .ok (.iload 5, 2) := by decide +kernel
theorem dX5_boxSide_10 : decode cX5_boxSide 10 = .ok (.aload_n 0, 1) := by decide +kernel
theorem dX5_boxSide_11 : decode cX5_boxSide 11 = .ok (.getfield 19, 3) := by decide +kernel
theorem dX5_boxSide_14 : decode cX5_boxSide 14 = .ok (.if_icmp .ge 82, 3) := by decide +kernel
theorem dX5_boxSide_17 : decode cX5_boxSide 17 = .ok (.iconst 0, 1) := by decide +kernel
theorem dX5_boxSide_18 : decode cX5_boxSide 18 = .ok (.istore 6, 2) := by decide +kernel
theorem dX5_boxSide_20 : decode cX5_boxSide 20 = .ok (.iload 6, 2) := by decide +kernel
theorem dX5_boxSide_22 : decode cX5_boxSide 22 = .ok (.aload_n 0, 1) := by decide +kernel
theorem dX5_boxSide_23 : decode cX5_boxSide 23 = .ok (.getfield 15, 3) := by decide +kernel
theorem dX5_boxSide_26 : decode cX5_boxSide 26 = .ok (.if_icmp .ge 64, 3) := by decide +kernel
theorem dX5_boxSide_29 : decode cX5_boxSide 29 = .ok (.aload_n 0, 1) := by decide +kernel
theorem dX5_boxSide_30 : decode cX5_boxSide 30 = .ok (.iload 6, 2) := by decide +kernel
theorem dX5_boxSide_32 : decode cX5_boxSide 32 = .ok (.iload 5, 2) := by decide +kernel
theorem dX5_boxSide_34 : decode cX5_boxSide 34 = .ok (.invokevirtual 38, 3) := by decide +kernel
theorem dX5_boxSide_37 : decode cX5_boxSide 37 = .ok (.bipush 24, 2) := by decide +kernel
theorem dX5_boxSide_39 : decode cX5_boxSide 39 = .ok (.invokestatic 42, 3) := by decide +kernel
theorem dX5_boxSide_42 : decode cX5_boxSide 42 = .ok (.ifCond .eq 42, 3) := by decide +kernel
theorem dX5_boxSide_45 : decode cX5_boxSide 45 = .ok (.iload_n 1, 1) := by decide +kernel
theorem dX5_boxSide_46 : decode cX5_boxSide 46 = .ok (.ifCond .eq 8, 3) := by decide +kernel
theorem dX5_boxSide_49 : decode cX5_boxSide 49 = .ok (.iload 6, 2) := by decide +kernel
theorem dX5_boxSide_51 : decode cX5_boxSide 51 = .ok (.goto 5, 3) := by decide +kernel
theorem dX5_boxSide_54 : decode cX5_boxSide 54 = .ok (.iload 5, 2) := by decide +kernel
theorem dX5_boxSide_56 : decode cX5_boxSide 56 = .ok (.istore 7, 2) := by decide +kernel
theorem dX5_boxSide_58 : decode cX5_boxSide 58 = .ok (.iload_n 3, 1) := by decide +kernel
theorem dX5_boxSide_59 : decode cX5_boxSide 59 = .ok (.iconst (-1), 1) := by decide +kernel
theorem dX5_boxSide_60 : decode cX5_boxSide 60 = .ok (.if_icmp .ne 8, 3) := by decide +kernel
theorem dX5_boxSide_63 : decode cX5_boxSide 63 = .ok (.iload 7, 2) := by decide +kernel
theorem dX5_boxSide_65 : decode cX5_boxSide 65 = .ok (.goto 9, 3) := by decide +kernel
theorem dX5_boxSide_68 : decode cX5_boxSide 68 = .ok (.iload_n 3, 1) := by decide +kernel
theorem dX5_boxSide_69 : decode cX5_boxSide 69 = .ok (.iload 7, 2) := by decide +kernel
theorem dX5_boxSide_71 : decode cX5_boxSide 71 = .ok (.invokestatic 45, 3) := by decide +kernel
theorem dX5_boxSide_74 : decode cX5_boxSide 74 = .ok (.istore_n 3, 1) := by decide +kernel
theorem dX5_boxSide_75 : decode cX5_boxSide 75 = .ok (.iload 4, 2) := by decide +kernel
theorem dX5_boxSide_77 : decode cX5_boxSide 77 = .ok (.iload 7, 2) := by decide +kernel
theorem dX5_boxSide_79 : decode cX5_boxSide 79 = .ok (.invokestatic 50, 3) := by decide +kernel
theorem dX5_boxSide_82 : decode cX5_boxSide 82 = .ok (.istore 4, 2) := by decide +kernel
theorem dX5_boxSide_84 : decode cX5_boxSide 84 = .ok (.iinc 6 1, 3) := by decide +kernel
theorem dX5_boxSide_87 : decode cX5_boxSide 87 = .ok (.goto (-67), 3) := by decide +kernel
theorem dX5_boxSide_90 : decode cX5_boxSide 90 = .ok (.iinc 5 1, 3) := by decide +kernel
theorem dX5_boxSide_93 : decode cX5_boxSide 93 = .ok (.goto (-85), 3) := by decide +kernel
theorem dX5_boxSide_96 : decode cX5_boxSide 96 = .ok (.iload_n 2, 1) := by decide +kernel
theorem dX5_boxSide_97 : decode cX5_boxSide 97 = .ok (.ifCond .eq 8, 3) := by decide +kernel
theorem dX5_boxSide_100 : decode cX5_boxSide 100 = .ok (.iload 4, 2) := by decide +kernel
theorem dX5_boxSide_102 : decode cX5_boxSide 102 = .ok (.goto 4, 3) := by decide +kernel
theorem dX5_boxSide_105 : decode cX5_boxSide 105 = .ok (.iload_n 3, 1) := by decide +kernel
theorem dX5_boxSide_106 : decode cX5_boxSide 106 = .ok (.ireturn, 1) := by decide +kernel
theorem dX6_init_0 : decode cX6_init 0 = .ok (.aload_n 0, 1) := by decide +kernel
theorem dX6_init_1 : decode cX6_init 1 = .ok (.invokespecial 3, 3) := by decide +kernel
theorem dX6_init_4 : decode cX6_init 4 = .ok (.aload_n 0, 1) := by decide +kernel
theorem dX6_init_5 : decode cX6_init 5 = .ok (.sipush 4096, 3) := by decide +kernel
theorem dX6_init_8 : decode cX6_init 8 = .ok (.newarray .int, 2) := by decide +kernel
theorem dX6_init_10 : decode cX6_init 10 = .ok (.putfield 9, 3) := by decide +kernel
theorem dX6_init_13 : decode cX6_init 13 = .ok (.aload_n 0, 1) := by decide +kernel
theorem dX6_init_14 : decode cX6_init 14 = .ok (.sipush 4096, 3) := by decide +kernel
theorem dX6_init_17 : decode cX6_init 17 = .ok (.newarray .int, 2) := by decide +kernel
theorem dX6_init_19 : decode cX6_init 19 = .ok (.putfield 15, 3) := by decide +kernel
theorem dX6_init_22 : decode cX6_init 22 = .ok (.aload_n 0, 1) := by decide +kernel
theorem dX6_init_23 : decode cX6_init 23 = .ok (.iconst 0, 1) := by decide +kernel
theorem dX6_init_24 : decode cX6_init 24 = .ok (.putfield 18, 3) := by decide +kernel
theorem dX6_init_27 : decode cX6_init 27 = .ok (.return_, 1) := by decide +kernel
theorem dX6_gather_0 : decode cX6_gather 0 = .ok (.aload_n 0, 1) := by decide +kernel
theorem dX6_gather_1 : decode cX6_gather 1 = .ok (.getfield 15, 3) := by decide +kernel
theorem dX6_gather_4 : decode cX6_gather 4 = .ok (.iconst 0, 1) := by decide +kernel
theorem dX6_gather_5 : decode cX6_gather 5 = .ok (.invokestatic 22, 3) := by decide +kernel
theorem dX6_gather_8 : decode cX6_gather 8 = .ok (.aload_n 0, 1) := by decide +kernel
theorem dX6_gather_9 : decode cX6_gather 9 = .ok (.iconst 0, 1) := by decide +kernel
theorem dX6_gather_10 : decode cX6_gather 10 = .ok (.putfield 18, 3) := by decide +kernel
theorem dX6_gather_13 : decode cX6_gather 13 = .ok (.aload_n 1, 1) := by decide +kernel
theorem dX6_gather_14 : decode cX6_gather 14 = .ok (.iload_n 3, 1) := by decide +kernel
theorem dX6_gather_15 : decode cX6_gather 15 = .ok (.iload 4, 2) := by decide +kernel
theorem dX6_gather_17 : decode cX6_gather 17 = .ok (.invokevirtual 28, 3) := by decide +kernel
theorem dX6_gather_20 : decode cX6_gather 20 = .ok (.istore 6, 2) := by decide +kernel
theorem dX6_gather_22 : decode cX6_gather 22 = .ok (.aload_n 0, 1) := by decide +kernel
theorem dX6_gather_23 : decode cX6_gather 23 = .ok (.aload_n 1, 1) := by decide +kernel
theorem dX6_gather_24 : decode cX6_gather 24 = .ok (.aload_n 2, 1) := by decide +kernel
theorem dX6_gather_25 : decode cX6_gather 25 = .ok (.iload_n 3, 1) := by decide +kernel
theorem dX6_gather_26 : decode cX6_gather 26 = .ok (.iload 4, 2) := by decide +kernel
theorem dX6_gather_28 : decode cX6_gather 28 = .ok (.iload 6, 2) := by decide +kernel
theorem dX6_gather_30 : decode cX6_gather 30 = .ok (.invokevirtual 34, 3) := by decide +kernel
theorem dX6_gather_33 : decode cX6_gather 33 = .ok (.iconst 0, 1) := by decide +kernel
theorem dX6_gather_34 : decode cX6_gather 34 = .ok (.istore 7, 2) := by decide +kernel
theorem dX6_gather_36 : decode cX6_gather 36 = .ok (.iload 7, 2) := by decide +kernel
theorem dX6_gather_38 : decode cX6_gather 38 = .ok (.aload_n 0, 1) := by decide +kernel
theorem dX6_gather_39 : decode cX6_gather 39 = .ok (.getfield 18, 3) := by decide +kernel
theorem dX6_gather_42 : decode cX6_gather 42 = .ok (.if_icmp .ge 90, 3) := by decide +kernel
theorem dX6_gather_45 : decode cX6_gather 45 = .ok (.iload 7, 2) := by decide +kernel
theorem dX6_gather_47 : decode cX6_gather 47 = .ok (.sipush 4096, 3) := by decide +kernel
theorem dX6_gather_50 : decode cX6_gather 50 = .ok (.if_icmp .ge 82, 3) := by decide +kernel
theorem dX6_gather_53 : decode cX6_gather 53 = .ok (.iconst 0, 1) := by decide +kernel
theorem dX6_gather_54 : decode cX6_gather 54 = .ok (.istore 8, 2) := by decide +kernel
theorem dX6_gather_56 : decode cX6_gather 56 = .ok (.iload 8, 2) := by decide +kernel
theorem dX6_gather_58 : decode cX6_gather 58 = .ok (.bipush 9, 2) := by decide +kernel
theorem dX6_gather_60 : decode cX6_gather 60 = .ok (.if_icmp .ge 66, 3) := by decide +kernel
theorem dX6_gather_63 : decode cX6_gather 63 = .ok (.iload 8, 2) := by decide +kernel
theorem dX6_gather_65 : decode cX6_gather 65 = .ok (.iconst 3, 1) := by decide +kernel
theorem dX6_gather_66 : decode cX6_gather 66 = .ok (.irem, 1) := by decide +kernel
theorem dX6_gather_67 : decode cX6_gather 67 = .ok (.iconst 1, 1) := by decide +kernel
theorem dX6_gather_68 : decode cX6_gather 68 = .ok (.isub, 1) := by decide +kernel
theorem dX6_gather_69 : decode cX6_gather 69 = .ok (.istore 9, 2) := by decide +kernel
theorem dX6_gather_71 : decode cX6_gather 71 = .ok (.iload 8, 2) := by decide +kernel
theorem dX6_gather_73 : decode cX6_gather 73 = .ok (.iconst 3, 1) := by decide +kernel
theorem dX6_gather_74 : decode cX6_gather 74 = .ok (.idiv, 1) := by decide +kernel
theorem dX6_gather_75 : decode cX6_gather 75 = .ok (.iconst 1, 1) := by decide +kernel
theorem dX6_gather_76 : decode cX6_gather 76 = .ok (.isub, 1) := by decide +kernel
theorem dX6_gather_77 : decode cX6_gather 77 = .ok (.istore 10, 2) := by decide +kernel
theorem dX6_gather_79 : decode cX6_gather 79 = .ok (.iload 5, 2) := by decide +kernel
theorem dX6_gather_81 : decode cX6_gather 81 = .ok (.ifCond .ne 13, 3) := by decide +kernel
theorem dX6_gather_84 : decode cX6_gather 84 = .ok (.iload 9, 2) := by decide +kernel
theorem dX6_gather_86 : decode cX6_gather 86 = .ok (.ifCond .eq 8, 3) := by decide +kernel
theorem dX6_gather_89 : decode cX6_gather 89 = .ok (.iload 10, 2) := by decide +kernel
theorem dX6_gather_91 : decode cX6_gather 91 = .ok (.ifCond .ne 29, 3) := by decide +kernel
theorem dX6_gather_94 : decode cX6_gather 94 = .ok (.aload_n 0, 1) := by decide +kernel
theorem dX6_gather_95 : decode cX6_gather 95 = .ok (.aload_n 1, 1) := by decide +kernel
theorem dX6_gather_96 : decode cX6_gather 96 = .ok (.aload_n 2, 1) := by decide +kernel
theorem dX6_gather_97 : decode cX6_gather 97 = .ok (.aload_n 0, 1) := by decide +kernel
theorem dX6_gather_98 : decode cX6_gather 98 = .ok (.iload 7, 2) := by decide +kernel
theorem dX6_gather_100 : decode cX6_gather 100 = .ok (.invokevirtual 38, 3) := by decide +kernel
theorem dX6_gather_103 : decode cX6_gather 103 = .ok (.iload 9, 2) := by decide +kernel
theorem dX6_gather_105 : decode cX6_gather 105 = .ok (.iadd, 1) := by decide +kernel
theorem dX6_gather_106 : decode cX6_gather 106 = .ok (.aload_n 0, 1) := by decide +kernel
theorem dX6_gather_107 : decode cX6_gather 107 = .ok (.iload 7, 2) := by decide +kernel
theorem dX6_gather_109 : decode cX6_gather 109 = .ok (.invokevirtual 42, 3) := by decide +kernel
theorem dX6_gather_112 : decode cX6_gather 112 = .ok (.iload 10, 2) := by decide +kernel
theorem dX6_gather_114 : decode cX6_gather 114 = .ok (.iadd, 1) := by decide +kernel
theorem dX6_gather_115 : decode cX6_gather 115 = .ok (.iload 6, 2) := by decide +kernel
theorem dX6_gather_117 : decode cX6_gather 117 = .ok (.invokevirtual 34, 3) := by decide +kernel
theorem dX6_gather_120 : decode cX6_gather 120 = .ok (.iinc 8 1, 3) := by decide +kernel
theorem dX6_gather_123 : decode cX6_gather 123 = .ok (.goto (-67), 3) := by decide +kernel
theorem dX6_gather_126 : decode cX6_gather 126 = .ok (.iinc 7 1, 3) := by decide +kernel
theorem dX6_gather_129 : decode cX6_gather 129 = .ok (.goto (-93), 3) := by decide +kernel
theorem dX6_gather_132 : decode cX6_gather 132 = .ok (.return_, 1) := by decide +kernel
theorem dX6_xAt_0 : decode cX6_xAt 0 = .ok (.iload_n 1, 1) := by decide +kernel
theorem dX6_xAt_1 : decode cX6_xAt 1 = .ok (.ifCond .lt 23, 3) := by decide +kernel
theorem dX6_xAt_4 : decode cX6_xAt 4 = .ok (.iload_n 1, 1) := by decide +kernel
theorem dX6_xAt_5 : decode cX6_xAt 5 = .ok (.aload_n 0, 1) := by decide +kernel
theorem dX6_xAt_6 : decode cX6_xAt 6 = .ok (.getfield 18, 3) := by decide +kernel
theorem dX6_xAt_9 : decode cX6_xAt 9 = .ok (.if_icmp .ge 15, 3) := by decide +kernel
theorem dX6_xAt_12 : decode cX6_xAt 12 = .ok (.aload_n 0, 1) := by decide +kernel
theorem dX6_xAt_13 : decode cX6_xAt 13 = .ok (.getfield 9, 3) := by decide +kernel
theorem dX6_xAt_16 : decode cX6_xAt 16 = .ok (.iload_n 1, 1) := by decide +kernel
theorem dX6_xAt_17 : decode cX6_xAt 17 = .ok (.iaload, 1) := by decide +kernel
theorem dX6_xAt_18 : decode cX6_xAt 18 = .ok (.bipush 64, 2) := by decide +kernel
theorem dX6_xAt_20 : decode cX6_xAt 20 = .ok (.irem, 1) := by decide +kernel
theorem dX6_xAt_21 : decode cX6_xAt 21 = .ok (.goto 4, 3) := by decide +kernel
theorem dX6_xAt_24 : decode cX6_xAt 24 = .ok (.iconst (-1), 1) := by decide +kernel
theorem dX6_xAt_25 : decode cX6_xAt 25 = .ok (.ireturn, 1) := by decide +kernel
theorem dX6_yAt_0 : decode cX6_yAt 0 = .ok (.iload_n 1, 1) := by decide +kernel
theorem dX6_yAt_1 : decode cX6_yAt 1 = .ok (.ifCond .lt 23, 3) := by decide +kernel
theorem dX6_yAt_4 : decode cX6_yAt 4 = .ok (.iload_n 1, 1) := by decide +kernel
theorem dX6_yAt_5 : decode cX6_yAt 5 = .ok (.aload_n 0, 1) := by decide +kernel
theorem dX6_yAt_6 : decode cX6_yAt 6 = .ok (.getfield 18, 3) := by decide +kernel
theorem dX6_yAt_9 : decode cX6_yAt 9 = .ok (.if_icmp .ge 15, 3) := by decide +kernel
theorem dX6_yAt_12 : decode cX6_yAt 12 = .ok (.aload_n 0, 1) := by decide +kernel
theorem dX6_yAt_13 : decode cX6_yAt 13 = .ok (.getfield 9, 3) := by decide +kernel
theorem dX6_yAt_16 : decode cX6_yAt 16 = .ok (.iload_n 1, 1) := by decide +kernel
theorem dX6_yAt_17 : decode cX6_yAt 17 = .ok (.iaload, 1) := by decide +kernel
theorem dX6_yAt_18 : decode cX6_yAt 18 = .ok (.bipush 64, 2) := by decide +kernel
theorem dX6_yAt_20 : decode cX6_yAt 20 = .ok (.idiv, 1) := by decide +kernel
theorem dX6_yAt_21 : decode cX6_yAt 21 = .ok (.goto 4, 3) := by decide +kernel
theorem dX6_yAt_24 : decode cX6_yAt 24 = .ok (.iconst (-1), 1) := by decide +kernel
theorem dX6_yAt_25 : decode cX6_yAt 25 = .ok (.ireturn, 1) := by decide +kernel
theorem dX6_reach_0 : decode cX6_reach 0 = .ok (.aload_n 1, 1) := by decide +kernel
theorem dX6_reach_1 : decode cX6_reach 1 = .ok (.iload_n 3, 1) := by decide +kernel
theorem dX6_reach_2 : decode cX6_reach 2 = .ok (.iload 4, 2) := by decide +kernel
theorem dX6_reach_4 : decode cX6_reach 4 = .ok (.invokevirtual 45, 3) := by decide +kernel
theorem dX6_reach_7 : decode cX6_reach 7 = .ok (.ifCond .eq 25, 3) := by decide +kernel
theorem dX6_reach_10 : decode cX6_reach 10 = .ok (.aload_n 2, 1) := by decide +kernel
theorem dX6_reach_11 : decode cX6_reach 11 = .ok (.iload_n 3, 1) := by decide +kernel
theorem dX6_reach_12 : decode cX6_reach 12 = .ok (.iload 4, 2) := by decide +kernel
theorem dX6_reach_14 : decode cX6_reach 14 = .ok (.invokevirtual 49, 3) := by decide +kernel
theorem dX6_reach_17 : decode cX6_reach 17 = .ok (.ifCond .eq 15, 3) := by decide +kernel
theorem dX6_reach_20 : decode cX6_reach 20 = .ok (.aload_n 1, 1) := by decide +kernel
theorem dX6_reach_21 : decode cX6_reach 21 = .ok (.iload_n 3, 1) := by decide +kernel
theorem dX6_reach_22 : decode cX6_reach 22 = .ok (.iload 4, 2) := by decide +kernel
theorem dX6_reach_24 : decode cX6_reach 24 = .ok (.invokevirtual 28, 3) := by decide +kernel
theorem dX6_reach_27 : decode cX6_reach 27 = .ok (.iload 5, 2) := by decide +kernel
theorem dX6_reach_29 : decode cX6_reach 29 = .ok (.if_icmp .eq 4, 3) := by decide +kernel
theorem dX6_reach_32 : decode cX6_reach 32 = .ok (.return_, 1) := by decide +kernel
theorem dX6_reach_33 : decode cX6_reach 33 = .ok (.iload 4, 2) := by decide +kernel
theorem dX6_reach_35 : decode cX6_reach 35 = .ok (.bipush 64, 2) := by decide +kernel
theorem dX6_reach_37 : decode cX6_reach 37 = .ok (.imul, 1) := by decide +kernel
theorem dX6_reach_38 : decode cX6_reach 38 = .ok (.iload_n 3, 1) := by decide +kernel
theorem dX6_reach_39 : decode cX6_reach 39 = .ok (.iadd, 1) := by decide +kernel
theorem dX6_reach_40 : decode cX6_reach 40 = .ok (.istore 6, 2) := by decide +kernel
theorem dX6_reach_42 : decode cX6_reach 42 = .ok (.aload_n 0, 1) := by decide +kernel
theorem dX6_reach_43 : decode cX6_reach 43 = .ok (.getfield 15, 3) := by decide +kernel
theorem dX6_reach_46 : decode cX6_reach 46 = .ok (.iload 6, 2) := by decide +kernel
theorem dX6_reach_48 : decode cX6_reach 48 = .ok (.iaload, 1) := by decide +kernel
theorem dX6_reach_49 : decode cX6_reach 49 = .ok (.ifCond .ne 42, 3) := by decide +kernel
theorem dX6_reach_52 : decode cX6_reach 52 = .ok (.aload_n 0, 1) := by decide +kernel
theorem dX6_reach_53 : decode cX6_reach 53 = .ok (.getfield 18, 3) := by decide +kernel
theorem dX6_reach_56 : decode cX6_reach 56 = .ok (.sipush 4096, 3) := by decide +kernel
theorem dX6_reach_59 : decode cX6_reach 59 = .ok (.if_icmp .ge 32, 3) := by decide +kernel
theorem dX6_reach_62 : decode cX6_reach 62 = .ok (.aload_n 0, 1) := by decide +kernel
theorem dX6_reach_63 : decode cX6_reach 63 = .ok (.getfield 15, 3) := by decide +kernel
theorem dX6_reach_66 : decode cX6_reach 66 = .ok (.iload 6, 2) := by decide +kernel
theorem dX6_reach_68 : decode cX6_reach 68 = .ok (.iconst 1, 1) := by decide +kernel
theorem dX6_reach_69 : decode cX6_reach 69 = .ok (.iastore, 1) := by decide +kernel
theorem dX6_reach_70 : decode cX6_reach 70 = .ok (.aload_n 0, 1) := by decide +kernel
theorem dX6_reach_71 : decode cX6_reach 71 = .ok (.getfield 9, 3) := by decide +kernel
theorem dX6_reach_74 : decode cX6_reach 74 = .ok (.aload_n 0, 1) := by decide +kernel
theorem dX6_reach_75 : decode cX6_reach 75 = .ok (.getfield 18, 3) := by decide +kernel
theorem dX6_reach_78 : decode cX6_reach 78 = .ok (.iload 6, 2) := by decide +kernel
theorem dX6_reach_80 : decode cX6_reach 80 = .ok (.iastore, 1) := by decide +kernel
theorem dX6_reach_81 : decode cX6_reach 81 = .ok (.aload_n 0, 1) := by decide +kernel
theorem dX6_reach_82 : decode cX6_reach 82 = .ok (.dup, 1) := by decide +kernel
theorem dX6_reach_83 : decode cX6_reach 83 = .ok (.getfield 18, 3) := by decide +kernel
theorem dX6_reach_86 : decode cX6_reach 86 = .ok (.iconst 1, 1) := by decide +kernel
theorem dX6_reach_87 : decode cX6_reach 87 = .ok (.iadd, 1) := by decide +kernel
theorem dX6_reach_88 : decode cX6_reach 88 = .ok (.putfield 18, 3) := by decide +kernel
theorem dX6_reach_91 : decode cX6_reach 91 = .ok (.return_, 1) := by decide +kernel
theorem dX7_init_0 : decode cX7_init 0 = .ok (.aload_n 0, 1) := by decide +kernel
theorem dX7_init_1 : decode cX7_init 1 = .ok (.invokespecial 3, 3) := by decide +kernel
theorem dX7_init_4 : decode cX7_init 4 = .ok (.aload_n 0, 1) := by decide +kernel
theorem dX7_init_5 : decode cX7_init 5 = .ok (.iconst 3, 1) := by decide +kernel
theorem dX7_init_6 : decode cX7_init 6 = .ok (.newarray .int, 2) := by decide +kernel
theorem dX7_init_8 : decode cX7_init 8 = .ok (.putfield 9, 3) := by decide +kernel
theorem dX7_init_11 : decode cX7_init 11 = .ok (.aload_n 0, 1) := by decide +kernel
theorem dX7_init_12 : decode cX7_init 12 = .ok (.iconst 3, 1) := by decide +kernel
theorem dX7_init_13 : decode cX7_init 13 = .ok (.newarray .int, 2) := by decide +kernel
theorem dX7_init_15 : decode cX7_init 15 = .ok (.putfield 15, 3) := by decide +kernel
theorem dX7_init_18 : decode cX7_init 18 = .ok (.aload_n 0, 1) := by decide +kernel
theorem dX7_init_19 : decode cX7_init 19 = .ok (.iconst 3, 1) := by decide +kernel
theorem dX7_init_20 : decode cX7_init 20 = .ok (.newarray .int, 2) := by decide +kernel
theorem dX7_init_22 : decode cX7_init 22 = .ok (.putfield 18, 3) := by decide +kernel
theorem dX7_init_25 : decode cX7_init 25 = .ok (.aload_n 0, 1) := by decide +kernel
theorem dX7_init_26 : decode cX7_init 26 = .ok (.new 21, 3) := by decide +kernel
theorem dX7_init_29 : decode cX7_init 29 = .ok (.dup, 1) := by decide +kernel
theorem dX7_init_30 : decode cX7_init 30 = .ok (.invokespecial 23, 3) := by decide +kernel
theorem dX7_init_33 : decode cX7_init 33 = .ok (.putfield 24, 3) := by decide +kernel
theorem dX7_init_36 : decode cX7_init 36 = .ok (.return_, 1) := by decide +kernel
theorem dX7_place_0 : decode cX7_place 0 = .ok (.iload_n 1, 1) := by decide +kernel
theorem dX7_place_1 : decode cX7_place 1 = .ok (.ifCond .lt 30, 3) := by decide +kernel
theorem dX7_place_4 : decode cX7_place 4 = .ok (.iload_n 1, 1) := by decide +kernel
theorem dX7_place_5 : decode cX7_place 5 = .ok (.iconst 3, 1) := by decide +kernel
theorem dX7_place_6 : decode cX7_place 6 = .ok (.if_icmp .ge 25, 3) := by decide +kernel
theorem dX7_place_9 : decode cX7_place 9 = .ok (.aload_n 0, 1) := by decide +kernel
theorem dX7_place_10 : decode cX7_place 10 = .ok (.getfield 9, 3) := by decide +kernel
theorem dX7_place_13 : decode cX7_place 13 = .ok (.iload_n 1, 1) := by decide +kernel
theorem dX7_place_14 : decode cX7_place 14 = .ok (.iload_n 2, 1) := by decide +kernel
theorem dX7_place_15 : decode cX7_place 15 = .ok (.iastore, 1) := by decide +kernel
theorem dX7_place_16 : decode cX7_place 16 = .ok (.aload_n 0, 1) := by decide +kernel
theorem dX7_place_17 : decode cX7_place 17 = .ok (.getfield 15, 3) := by decide +kernel
theorem dX7_place_20 : decode cX7_place 20 = .ok (.iload_n 1, 1) := by decide +kernel
theorem dX7_place_21 : decode cX7_place 21 = .ok (.iload_n 3, 1) := by decide +kernel
theorem dX7_place_22 : decode cX7_place 22 = .ok (.iastore, 1) := by decide +kernel
theorem dX7_place_23 : decode cX7_place 23 = .ok (.aload_n 0, 1) := by decide +kernel
theorem dX7_place_24 : decode cX7_place 24 = .ok (.getfield 18, 3) := by decide +kernel
theorem dX7_place_27 : decode cX7_place 27 = .ok (.iload_n 1, 1) := by decide +kernel
theorem dX7_place_28 : decode cX7_place 28 = .ok (.iload 4, 2) := by decide +kernel
theorem dX7_place_30 : decode cX7_place 30 = .ok (.iastore, 1) := by decide +kernel
theorem dX7_place_31 : decode cX7_place 31 = .ok (.return_, 1) := by decide +kernel
theorem dX7_draw_0 : decode cX7_draw 0 = .ok (.aload_n 0, 1) := by decide +kernel
theorem dX7_draw_1 : decode cX7_draw 1 = .ok (.getfield 24, 3) := by decide +kernel
theorem dX7_draw_4 : decode cX7_draw 4 = .ok (.invokevirtual 28, 3) := by decide +kernel
theorem dX7_draw_7 : decode cX7_draw 7 = .ok (.iconst 0, 1) := by decide +kernel
theorem dX7_draw_8 : decode cX7_draw 8 = .ok (.istore_n 1, 1) := by decide +kernel
theorem dX7_draw_9 : decode cX7_draw 9 = .ok (.iload_n 1, 1) := by decide +kernel
theorem dX7_draw_10 : decode cX7_draw 10 = .ok (.iconst 3, 1) := by decide +kernel
theorem dX7_draw_11 : decode cX7_draw 11 = .ok (.if_icmp .ge 36, 3) := by decide +kernel
theorem dX7_draw_14 : decode cX7_draw 14 = .ok (.aload_n 0, 1) := by decide +kernel
theorem dX7_draw_15 : decode cX7_draw 15 = .ok (.getfield 24, 3) := by decide +kernel
theorem dX7_draw_18 : decode cX7_draw 18 = .ok (.aload_n 0, 1) := by decide +kernel
theorem dX7_draw_19 : decode cX7_draw 19 = .ok (.getfield 9, 3) := by decide +kernel
theorem dX7_draw_22 : decode cX7_draw 22 = .ok (.iload_n 1, 1) := by decide +kernel
theorem dX7_draw_23 : decode cX7_draw 23 = .ok (.iaload, 1) := by decide +kernel
theorem dX7_draw_24 : decode cX7_draw 24 = .ok (.bipush 32, 2) := by decide +kernel
theorem dX7_draw_26 : decode cX7_draw 26 = .ok (.imul, 1) := by decide +kernel
theorem dX7_draw_27 : decode cX7_draw 27 = .ok (.aload_n 0, 1) := by decide +kernel
theorem dX7_draw_28 : decode cX7_draw 28 = .ok (.getfield 15, 3) := by decide +kernel
theorem dX7_draw_31 : decode cX7_draw 31 = .ok (.iload_n 1, 1) := by decide +kernel
theorem dX7_draw_32 : decode cX7_draw 32 = .ok (.iaload, 1) := by decide +kernel
theorem dX7_draw_33 : decode cX7_draw 33 = .ok (.bipush 32, 2) := by decide +kernel
theorem dX7_draw_35 : decode cX7_draw 35 = .ok (.imul, 1) := by decide +kernel
theorem dX7_draw_36 : decode cX7_draw 36 = .ok (.iconst 0, 1) := by decide +kernel
theorem dX7_draw_37 : decode cX7_draw 37 = .ok (.invokevirtual 31, 3) := by decide +kernel
theorem dX7_draw_40 : decode cX7_draw 40 = .ok (.pop, 1) := by decide +kernel
theorem dX7_draw_41 : decode cX7_draw 41 = .ok (.iinc 1 1, 3) := by decide +kernel
theorem dX7_draw_44 : decode cX7_draw 44 = .ok (.goto (-35), 3) := by decide +kernel
theorem dX7_draw_47 : decode cX7_draw 47 = .ok (.return_, 1) := by decide +kernel
theorem dX7_inkAt_0 : decode cX7_inkAt 0 = .ok (.aload_n 0, 1) := by decide +kernel
theorem dX7_inkAt_1 : decode cX7_inkAt 1 = .ok (.iload_n 1, 1) := by decide +kernel
theorem dX7_inkAt_2 : decode cX7_inkAt 2 = .ok (.iload_n 2, 1) := by decide +kernel
theorem dX7_inkAt_3 : decode cX7_inkAt 3 = .ok (.iconst 1, 1) := by decide +kernel
theorem dX7_inkAt_4 : decode cX7_inkAt 4 = .ok (.iconst 2, 1) := by decide +kernel
theorem dX7_inkAt_5 : decode cX7_inkAt 5 = .ok (.invokevirtual 35, 3) := by decide +kernel
theorem dX7_inkAt_8 : decode cX7_inkAt 8 = .ok (.istore_n 3, 1) := by decide +kernel
theorem dX7_inkAt_9 : decode cX7_inkAt 9 = .ok (.aload_n 0, 1) := by decide +kernel
theorem dX7_inkAt_10 : decode cX7_inkAt 10 = .ok (.iload_n 1, 1) := by decide +kernel
theorem dX7_inkAt_11 : decode cX7_inkAt 11 = .ok (.iload_n 2, 1) := by decide +kernel
theorem dX7_inkAt_12 : decode cX7_inkAt 12 = .ok (.iconst 2, 1) := by decide +kernel
theorem dX7_inkAt_13 : decode cX7_inkAt 13 = .ok (.iconst 0, 1) := by decide +kernel
theorem dX7_inkAt_14 : decode cX7_inkAt 14 = .ok (.invokevirtual 35, 3) := by decide +kernel
theorem dX7_inkAt_17 : decode cX7_inkAt 17 = .ok (.istore 4, 2) := by decide +kernel
theorem dX7_inkAt_19 : decode cX7_inkAt 19 = .ok (.aload_n 0, 1) := by decide +kernel
theorem dX7_inkAt_20 : decode cX7_inkAt 20 = .ok (.iload_n 1, 1) := by decide +kernel
theorem dX7_inkAt_21 : decode cX7_inkAt 21 = .ok (.iload_n 2, 1) := by decide +kernel
theorem dX7_inkAt_22 : decode cX7_inkAt 22 = .ok (.iconst 0, 1) := by decide +kernel
theorem dX7_inkAt_23 : decode cX7_inkAt 23 = .ok (.iconst 1, 1) := by decide +kernel
theorem dX7_inkAt_24 : decode cX7_inkAt 24 = .ok (.invokevirtual 35, 3) := by decide +kernel
theorem dX7_inkAt_27 : decode cX7_inkAt 27 = .ok (.istore 5, 2) := by decide +kernel
theorem dX7_inkAt_29 : decode cX7_inkAt 29 = .ok (.iload_n 3, 1) := by decide +kernel
theorem dX7_inkAt_30 : decode cX7_inkAt 30 = .ok (.iload 4, 2) := by decide +kernel
theorem dX7_inkAt_32 : decode cX7_inkAt 32 = .ok (.iadd, 1) := by decide +kernel
theorem dX7_inkAt_33 : decode cX7_inkAt 33 = .ok (.iload 5, 2) := by decide +kernel
theorem dX7_inkAt_35 : decode cX7_inkAt 35 = .ok (.iadd, 1) := by decide +kernel
theorem dX7_inkAt_36 : decode cX7_inkAt 36 = .ok (.istore 6, 2) := by decide +kernel
theorem dX7_inkAt_38 : decode cX7_inkAt 38 = .ok (.iload 6, 2) := by decide +kernel
theorem dX7_inkAt_40 : decode cX7_inkAt 40 = .ok (.ifCond .ne 5, 3) := by decide +kernel
theorem dX7_inkAt_43 : decode cX7_inkAt 43 = .ok (.iconst 0, 1) := by decide +kernel
theorem dX7_inkAt_44 : decode cX7_inkAt 44 = .ok (.ireturn, 1) := by decide +kernel
theorem dX7_inkAt_45 : decode cX7_inkAt 45 = .ok (.iconst 0, 1) := by decide +kernel
theorem dX7_inkAt_46 : decode cX7_inkAt 46 = .ok (.istore 7, 2) := by decide +kernel
theorem dX7_inkAt_48 : decode cX7_inkAt 48 = .ok (.bipush 24, 2) := by decide +kernel
theorem dX7_inkAt_50 : decode cX7_inkAt 50 = .ok (.istore 8, 2) := by decide +kernel
theorem dX7_inkAt_52 : decode cX7_inkAt 52 = .ok (.iload 8, 2) := by decide +kernel
theorem dX7_inkAt_54 : decode cX7_inkAt 54 = .ok (.ifCond .lt 67, 3) := by decide +kernel
theorem dX7_inkAt_57 : decode cX7_inkAt 57 = .ok (.iload_n 3, 1) := by decide +kernel
theorem dX7_inkAt_58 : decode cX7_inkAt 58 = .ok (.aload_n 0, 1) := by decide +kernel
theorem dX7_inkAt_59 : decode cX7_inkAt 59 = .ok (.getfield 18, 3) := by decide +kernel
theorem dX7_inkAt_62 : decode cX7_inkAt 62 = .ok (.iconst 0, 1) := by decide +kernel
theorem dX7_inkAt_63 : decode cX7_inkAt 63 = .ok (.iaload, 1) := by decide +kernel
theorem dX7_inkAt_64 : decode cX7_inkAt 64 = .ok (.iload 8, 2) := by decide +kernel
theorem dX7_inkAt_66 : decode cX7_inkAt 66 = .ok (.invokestatic 39, 3) := by decide +kernel
theorem dX7_inkAt_69 : decode cX7_inkAt 69 = .ok (.imul, 1) := by decide +kernel
theorem dX7_inkAt_70 : decode cX7_inkAt 70 = .ok (.iload 4, 2) := by decide +kernel
theorem dX7_inkAt_72 : decode cX7_inkAt 72 = .ok (.aload_n 0, 1) := by decide +kernel
theorem dX7_inkAt_73 : decode cX7_inkAt 73 = .ok (.getfield 18, 3) := by decide +kernel
theorem dX7_inkAt_76 : decode cX7_inkAt 76 = .ok (.iconst 1, 1) := by decide +kernel
theorem dX7_inkAt_77 : decode cX7_inkAt 77 = .ok (.iaload, 1) := by decide +kernel
theorem dX7_inkAt_78 : decode cX7_inkAt 78 = .ok (.iload 8, 2) := by decide +kernel
theorem dX7_inkAt_80 : decode cX7_inkAt 80 = .ok (.invokestatic 39, 3) := by decide +kernel
theorem dX7_inkAt_83 : decode cX7_inkAt 83 = .ok (.imul, 1) := by decide +kernel
theorem dX7_inkAt_84 : decode cX7_inkAt 84 = .ok (.iadd, 1) := by decide +kernel
theorem dX7_inkAt_85 : decode cX7_inkAt 85 = .ok (.iload 5, 2) := by decide +kernel
theorem dX7_inkAt_87 : decode cX7_inkAt 87 = .ok (.aload_n 0, 1) := by decide +kernel
theorem dX7_inkAt_88 : decode cX7_inkAt 88 = .ok (.getfield 18, 3) := by decide +kernel
theorem dX7_inkAt_91 : decode cX7_inkAt 91 = .ok (.iconst 2, 1) := by decide +kernel
theorem dX7_inkAt_92 : decode cX7_inkAt 92 = .ok (.iaload, 1) := by decide +kernel
theorem dX7_inkAt_93 : decode cX7_inkAt 93 = .ok (.iload 8, 2) := by decide +kernel
theorem dX7_inkAt_95 : decode cX7_inkAt 95 = .ok (.invokestatic 39, 3) := by decide +kernel
theorem dX7_inkAt_98 : decode cX7_inkAt 98 = .ok (.imul, 1) := by decide +kernel
theorem dX7_inkAt_99 : decode cX7_inkAt 99 = .ok (.iadd, 1) := by decide +kernel
theorem dX7_inkAt_100 : decode cX7_inkAt 100 = .ok (.istore 9, 2) := by decide +kernel
theorem dX7_inkAt_102 : decode cX7_inkAt 102 = .ok (.iload 7, 2) := by decide +kernel
theorem dX7_inkAt_104 : decode cX7_inkAt 104 = .ok (.bipush 8, 2) := by decide +kernel
theorem dX7_inkAt_106 : decode cX7_inkAt 106 = .ok (.ishl, 1) := by decide +kernel
theorem dX7_inkAt_107 : decode cX7_inkAt 107 = .ok (.iload 9, 2) := by decide +kernel
theorem dX7_inkAt_109 : decode cX7_inkAt 109 = .ok (.iload 6, 2) := by decide +kernel
theorem dX7_inkAt_111 : decode cX7_inkAt 111 = .ok (.idiv, 1) := by decide +kernel
theorem dX7_inkAt_112 : decode cX7_inkAt 112 = .ok (.ior, 1) := by decide +kernel
theorem dX7_inkAt_113 : decode cX7_inkAt 113 = .ok (.istore 7, 2) := by decide +kernel
theorem dX7_inkAt_115 : decode cX7_inkAt 115 = .ok (.iinc 8 (-8), 3) := by decide +kernel
theorem dX7_inkAt_118 : decode cX7_inkAt 118 = .ok (.goto (-66), 3) := by decide +kernel
theorem dX7_inkAt_121 : decode cX7_inkAt 121 = .ok (.iload 7, 2) := by decide +kernel
theorem dX7_inkAt_123 : decode cX7_inkAt 123 = .ok (.ireturn, 1) := by decide +kernel
theorem dX7_areaFrom_0 : decode cX7_areaFrom 0 = .ok (.iconst 2, 1) := by decide +kernel
theorem dX7_areaFrom_1 : decode cX7_areaFrom 1 = .ok (.aload_n 0, 1) := by decide +kernel
theorem dX7_areaFrom_2 : decode cX7_areaFrom 2 = .ok (.getfield 9, 3) := by decide +kernel
theorem dX7_areaFrom_5 : decode cX7_areaFrom 5 = .ok (.iload_n 3, 1) := by decide +kernel
theorem dX7_areaFrom_6 : decode cX7_areaFrom 6 = .ok (.iaload, 1) := by decide +kernel
theorem dX7_areaFrom_7 : decode cX7_areaFrom 7 = .ok (.imul, 1) := by decide +kernel
theorem dX7_areaFrom_8 : decode cX7_areaFrom 8 = .ok (.iconst 2, 1) := by decide +kernel
theorem dX7_areaFrom_9 : decode cX7_areaFrom 9 = .ok (.iload_n 1, 1) := by decide +kernel
theorem dX7_areaFrom_10 : decode cX7_areaFrom 10 = .ok (.imul, 1) := by decide +kernel
theorem dX7_areaFrom_11 : decode cX7_areaFrom 11 = .ok (.iconst 1, 1) := by decide +kernel
theorem dX7_areaFrom_12 : decode cX7_areaFrom 12 = .ok (.iadd, 1) := by decide +kernel
theorem dX7_areaFrom_13 : decode cX7_areaFrom 13 = .ok (.isub, 1) := by decide +kernel
theorem dX7_areaFrom_14 : decode cX7_areaFrom 14 = .ok (.istore 5, 2) := by decide +kernel
theorem dX7_areaFrom_16 : decode cX7_areaFrom 16 = .ok (.iconst 2, 1) := by decide +kernel
theorem dX7_areaFrom_17 : decode cX7_areaFrom 17 = .ok (.aload_n 0, 1) := by decide +kernel
theorem dX7_areaFrom_18 : decode cX7_areaFrom 18 = .ok (.getfield 15, 3) := by decide +kernel
theorem dX7_areaFrom_21 : decode cX7_areaFrom 21 = .ok (.iload_n 3, 1) := by decide +kernel
theorem dX7_areaFrom_22 : decode cX7_areaFrom 22 = .ok (.iaload, 1) := by decide +kernel
theorem dX7_areaFrom_23 : decode cX7_areaFrom 23 = .ok (.imul, 1) := by decide +kernel
theorem dX7_areaFrom_24 : decode cX7_areaFrom 24 = .ok (.iconst 2, 1) := by decide +kernel
theorem dX7_areaFrom_25 : decode cX7_areaFrom 25 = .ok (.iload_n 2, 1) := by decide +kernel
theorem dX7_areaFrom_26 : decode cX7_areaFrom 26 = .ok (.imul, 1) := by decide +kernel
theorem dX7_areaFrom_27 : decode cX7_areaFrom 27 = .ok (.iconst 1, 1) := by decide +kernel
theorem dX7_areaFrom_28 : decode cX7_areaFrom 28 = .ok (.iadd, 1) := by decide +kernel
theorem dX7_areaFrom_29 : decode cX7_areaFrom 29 = .ok (.isub, 1) := by decide +kernel
theorem dX7_areaFrom_30 : decode cX7_areaFrom 30 = .ok (.istore 6, 2) := by decide +kernel
theorem dX7_areaFrom_32 : decode cX7_areaFrom 32 = .ok (.iconst 2, 1) := by decide +kernel
theorem dX7_areaFrom_33 : decode cX7_areaFrom 33 = .ok (.aload_n 0, 1) := by decide +kernel
theorem dX7_areaFrom_34 : decode cX7_areaFrom 34 = .ok (.getfield 9, 3) := by decide +kernel
theorem dX7_areaFrom_37 : decode cX7_areaFrom 37 = .ok (.iload 4, 2) := by decide +kernel
theorem dX7_areaFrom_39 : decode cX7_areaFrom 39 = .ok (.iaload, 1) := by decide +kernel
theorem dX7_areaFrom_40 : decode cX7_areaFrom 40 = .ok (.imul, 1) := by decide +kernel
theorem dX7_areaFrom_41 : decode cX7_areaFrom 41 = .ok (.iconst 2, 1) := by decide +kernel
theorem dX7_areaFrom_42 : decode cX7_areaFrom 42 = .ok (.iload_n 1, 1) := by decide +kernel
theorem dX7_areaFrom_43 : decode cX7_areaFrom 43 = .ok (.imul, 1) := by decide +kernel
theorem dX7_areaFrom_44 : decode cX7_areaFrom 44 = .ok (.iconst 1, 1) := by decide +kernel
theorem dX7_areaFrom_45 : decode cX7_areaFrom 45 = .ok (.iadd, 1) := by decide +kernel
theorem dX7_areaFrom_46 : decode cX7_areaFrom 46 = .ok (.isub, 1) := by decide +kernel
theorem dX7_areaFrom_47 : decode cX7_areaFrom 47 = .ok (.istore 7, 2) := by decide +kernel
theorem dX7_areaFrom_49 : decode cX7_areaFrom 49 = .ok (.iconst 2, 1) := by decide +kernel
theorem dX7_areaFrom_50 : decode cX7_areaFrom 50 = .ok (.aload_n 0, 1) := by decide +kernel
theorem dX7_areaFrom_51 : decode cX7_areaFrom 51 = .ok (.getfield 15, 3) := by decide +kernel
theorem dX7_areaFrom_54 : decode cX7_areaFrom 54 = .ok (.iload 4, 2) := by decide +kernel
theorem dX7_areaFrom_56 : decode cX7_areaFrom 56 = .ok (.iaload, 1) := by decide +kernel
theorem dX7_areaFrom_57 : decode cX7_areaFrom 57 = .ok (.imul, 1) := by decide +kernel
theorem dX7_areaFrom_58 : decode cX7_areaFrom 58 = .ok (.iconst 2, 1) := by decide +kernel
theorem dX7_areaFrom_59 : decode cX7_areaFrom 59 = .ok (.iload_n 2, 1) := by decide +kernel
theorem dX7_areaFrom_60 : decode cX7_areaFrom 60 = .ok (.imul, 1) := by decide +kernel
theorem dX7_areaFrom_61 : decode cX7_areaFrom 61 = .ok (.iconst 1, 1) := by decide +kernel
theorem dX7_areaFrom_62 : decode cX7_areaFrom 62 = .ok (.iadd, 1) := by decide +kernel
theorem dX7_areaFrom_63 : decode cX7_areaFrom 63 = .ok (.isub, 1) := by decide +kernel
theorem dX7_areaFrom_64 : decode cX7_areaFrom 64 = .ok (.istore 8, 2) := by decide +kernel
theorem dX7_areaFrom_66 : decode cX7_areaFrom 66 = .ok (.iload 5, 2) := by decide +kernel
theorem dX7_areaFrom_68 : decode cX7_areaFrom 68 = .ok (.iload 8, 2) := by decide +kernel
theorem dX7_areaFrom_70 : decode cX7_areaFrom 70 = .ok (.imul, 1) := by decide +kernel
theorem dX7_areaFrom_71 : decode cX7_areaFrom 71 = .ok (.iload 6, 2) := by decide +kernel
theorem dX7_areaFrom_73 : decode cX7_areaFrom 73 = .ok (.iload 7, 2) := by decide +kernel
theorem dX7_areaFrom_75 : decode cX7_areaFrom 75 = .ok (.imul, 1) := by decide +kernel
theorem dX7_areaFrom_76 : decode cX7_areaFrom 76 = .ok (.isub, 1) := by decide +kernel
theorem dX7_areaFrom_77 : decode cX7_areaFrom 77 = .ok (.invokestatic 43, 3) := by decide +kernel
theorem dX7_areaFrom_80 : decode cX7_areaFrom 80 = .ok (.ireturn, 1) := by decide +kernel
theorem dX8_init_0 : decode cX8_init 0 = .ok (.aload_n 0, 1) := by decide +kernel
theorem dX8_init_1 : decode cX8_init 1 = .ok (.invokespecial 3, 3) := by decide +kernel
theorem dX8_init_4 : decode cX8_init 4 = .ok (.aload_n 0, 1) := by decide +kernel
theorem dX8_init_5 : decode cX8_init 5 = .ok (.iconst 4, 1) := by decide +kernel
theorem dX8_init_6 : decode cX8_init 6 = .ok (.anewarray 9, 3) := by decide +kernel
theorem dX8_init_9 : decode cX8_init 9 = .ok (.putfield 11, 3) := by decide +kernel
theorem dX8_init_12 : decode cX8_init 12 = .ok (.aload_n 0, 1) := by decide +kernel
theorem dX8_init_13 : decode cX8_init 13 = .ok (.new 15, 3) := by decide +kernel
theorem dX8_init_16 : decode cX8_init 16 = .ok (.dup, 1) := by decide +kernel
theorem dX8_init_17 : decode cX8_init 17 = .ok (.invokespecial 17, 3) := by decide +kernel
theorem dX8_init_20 : decode cX8_init 20 = .ok (.putfield 18, 3) := by decide +kernel
theorem dX8_init_23 : decode cX8_init 23 = .ok (.aload_n 0, 1) := by decide +kernel
theorem dX8_init_24 : decode cX8_init 24 = .ok (.new 22, 3) := by decide +kernel
theorem dX8_init_27 : decode cX8_init 27 = .ok (.dup, 1) := by decide +kernel
theorem dX8_init_28 : decode cX8_init 28 = .ok (.invokespecial 24, 3) := by decide +kernel
theorem dX8_init_31 : decode cX8_init 31 = .ok (.putfield 25, 3) := by decide +kernel
theorem dX8_init_34 : decode cX8_init 34 = .ok (.aload_n 0, 1) := by decide +kernel
theorem dX8_init_35 : decode cX8_init 35 = .ok (.new 29, 3) := by decide +kernel
theorem dX8_init_38 : decode cX8_init 38 = .ok (.dup, 1) := by decide +kernel
theorem dX8_init_39 : decode cX8_init 39 = .ok (.invokespecial 31, 3) := by decide +kernel
theorem dX8_init_42 : decode cX8_init 42 = .ok (.putfield 32, 3) := by decide +kernel
theorem dX8_init_45 : decode cX8_init 45 = .ok (.aload_n 0, 1) := by decide +kernel
theorem dX8_init_46 : decode cX8_init 46 = .ok (.new 36, 3) := by decide +kernel
theorem dX8_init_49 : decode cX8_init 49 = .ok (.dup, 1) := by decide +kernel
theorem dX8_init_50 : decode cX8_init 50 = .ok (.invokespecial 38, 3) := by decide +kernel
theorem dX8_init_53 : decode cX8_init 53 = .ok (.putfield 39, 3) := by decide +kernel
theorem dX8_init_56 : decode cX8_init 56 = .ok (.aload_n 0, 1) := by decide +kernel
theorem dX8_init_57 : decode cX8_init 57 = .ok (.new 43, 3) := by decide +kernel
theorem dX8_init_60 : decode cX8_init 60 = .ok (.dup, 1) := by decide +kernel
theorem dX8_init_61 : decode cX8_init 61 = .ok (.invokespecial 45, 3) := by decide +kernel
theorem dX8_init_64 : decode cX8_init 64 = .ok (.putfield 46, 3) := by decide +kernel
theorem dX8_init_67 : decode cX8_init 67 = .ok (.aload_n 0, 1) := by decide +kernel
theorem dX8_init_68 : decode cX8_init 68 = .ok (.ldc 50, 2) := by decide +kernel
theorem dX8_init_70 : decode cX8_init 70 = .ok (.putfield 51, 3) := by decide +kernel
theorem dX8_init_73 : decode cX8_init 73 = .ok (.aload_n 0, 1) := by decide +kernel
theorem dX8_init_74 : decode cX8_init 74 = .ok (.aconst_null, 1) := by decide +kernel
theorem dX8_init_75 : decode cX8_init 75 = .ok (.putfield 55, 3) := by decide +kernel
theorem dX8_init_78 : decode cX8_init 78 = .ok (.aload_n 0, 1) := by decide +kernel
theorem dX8_init_79 : decode cX8_init 79 = .ok (.aconst_null, 1) := by decide +kernel
theorem dX8_init_80 : decode cX8_init 80 = .ok (.putfield 59, 3) := by decide +kernel
theorem dX8_init_83 : decode cX8_init 83 = .ok (.return_, 1) := by decide +kernel
theorem dX8_sheet_0 : decode cX8_sheet 0 = .ok (.iload_n 1, 1) := by decide +kernel
theorem dX8_sheet_1 : decode cX8_sheet 1 = .ok (.ifCond .lt 22, 3) := by decide +kernel
theorem dX8_sheet_4 : decode cX8_sheet 4 = .ok (.iload_n 1, 1) := by decide +kernel
theorem dX8_sheet_5 : decode cX8_sheet 5 = .ok (.iconst 4, 1) := by decide +kernel
theorem dX8_sheet_6 : decode cX8_sheet 6 = .ok (.if_icmp .ge 17, 3) := by decide +kernel
theorem dX8_sheet_9 : decode cX8_sheet 9 = .ok (.iload_n 2, 1) := by decide +kernel
theorem dX8_sheet_10 : decode cX8_sheet 10 = .ok (.invokestatic 63, 3) := by decide +kernel
theorem dX8_sheet_13 : decode cX8_sheet 13 = .ok (.ifCond .eq 10, 3) := by decide +kernel
theorem dX8_sheet_16 : decode cX8_sheet 16 = .ok (.iload_n 3, 1) := by decide +kernel
theorem dX8_sheet_17 : decode cX8_sheet 17 = .ok (.invokestatic 63, 3) := by decide +kernel
theorem dX8_sheet_20 : decode cX8_sheet 20 = .ok (.ifCond .ne 5, 3) := by decide +kernel
theorem dX8_sheet_23 : decode cX8_sheet 23 = .ok (.iconst 0, 1) := by decide +kernel
theorem dX8_sheet_24 : decode cX8_sheet 24 = .ok (.ireturn, 1) := by decide +kernel
theorem dX8_sheet_25 : decode cX8_sheet 25 = .ok (.aload_n 0, 1) := by decide +kernel
theorem dX8_sheet_26 : decode cX8_sheet 26 = .ok (.getfield 11, 3) := by decide +kernel
theorem dX8_sheet_29 : decode cX8_sheet 29 = .ok (.iload_n 1, 1) := by decide +kernel
theorem dX8_sheet_30 : decode cX8_sheet 30 = .ok (.aaload, 1) := by decide +kernel
theorem dX8_sheet_31 : decode cX8_sheet 31 = .ok (.ifnonnull 16, 3) := by decide +kernel
theorem dX8_sheet_34 : decode cX8_sheet 34 = .ok (.aload_n 0, 1) := by decide +kernel
theorem dX8_sheet_35 : decode cX8_sheet 35 = .ok (.getfield 11, 3) := by decide +kernel
theorem dX8_sheet_38 : decode cX8_sheet 38 = .ok (.iload_n 1, 1) := by decide +kernel
theorem dX8_sheet_39 : decode cX8_sheet 39 = .ok (.new 9, 3) := by decide +kernel
theorem dX8_sheet_42 : decode cX8_sheet 42 = .ok (.dup, 1) := by decide +kernel
theorem dX8_sheet_43 : decode cX8_sheet 43 = .ok (.invokespecial 67, 3) := by decide +kernel
theorem dX8_sheet_46 : decode cX8_sheet 46 = .ok (.aastore, 1) := by decide +kernel
theorem dX8_sheet_47 : decode cX8_sheet 47 = .ok (.aload_n 0, 1) := by decide +kernel
theorem dX8_sheet_48 : decode cX8_sheet 48 = .ok (.getfield 11, 3) := by decide +kernel
theorem dX8_sheet_51 : decode cX8_sheet 51 = .ok (.iload_n 1, 1) := by decide +kernel
theorem dX8_sheet_52 : decode cX8_sheet 52 = .ok (.aaload, 1) := by decide +kernel
theorem dX8_sheet_53 : decode cX8_sheet 53 = .ok (.iload_n 2, 1) := by decide +kernel
theorem dX8_sheet_54 : decode cX8_sheet 54 = .ok (.iload_n 3, 1) := by decide +kernel
theorem dX8_sheet_55 : decode cX8_sheet 55 = .ok (.invokevirtual 68, 3) := by decide +kernel
theorem dX8_sheet_58 : decode cX8_sheet 58 = .ok (.iconst 1, 1) := by decide +kernel
theorem dX8_sheet_59 : decode cX8_sheet 59 = .ok (.ireturn, 1) := by decide +kernel
theorem dX8_ink_0 : decode cX8_ink 0 = .ok (.aload_n 0, 1) := by decide +kernel
theorem dX8_ink_1 : decode cX8_ink 1 = .ok (.getfield 18, 3) := by decide +kernel
theorem dX8_ink_4 : decode cX8_ink 4 = .ok (.iload_n 1, 1) := by decide +kernel
theorem dX8_ink_5 : decode cX8_ink 5 = .ok (.invokestatic 72, 3) := by decide +kernel
theorem dX8_ink_8 : decode cX8_ink 8 = .ok (.putfield 76, 3) := by decide +kernel
theorem dX8_ink_11 : decode cX8_ink 11 = .ok (.return_, 1) := by decide +kernel
theorem dX8_way_0 : decode cX8_way 0 = .ok (.iload_n 1, 1) := by decide +kernel
theorem dX8_way_1 : decode cX8_way 1 = .ok (.iconst 0, 1) := by decide +kernel
theorem dX8_way_2 : decode cX8_way 2 = .ok (.bipush 12, 2) := by decide +kernel
theorem dX8_way_4 : decode cX8_way 4 = .ok (.invokestatic 79, 3) := by decide +kernel
theorem dX8_way_7 : decode cX8_way 7 = .ok (.ifCond .eq 14, 3) := by decide +kernel
theorem dX8_way_10 : decode cX8_way 10 = .ok (.iload_n 2, 1) := by decide +kernel
theorem dX8_way_11 : decode cX8_way 11 = .ok (.iconst 0, 1) := by decide +kernel
theorem dX8_way_12 : decode cX8_way 12 = .ok (.sipush 255, 3) := by decide +kernel
theorem dX8_way_15 : decode cX8_way 15 = .ok (.invokestatic 79, 3) := by decide +kernel
theorem dX8_way_18 : decode cX8_way 18 = .ok (.ifCond .ne 5, 3) := by decide +kernel
theorem dX8_way_21 : decode cX8_way 21 = .ok (.iconst 0, 1) := by decide +kernel
theorem dX8_way_22 : decode cX8_way 22 = .ok (.ireturn, 1) := by decide +kernel
theorem dX8_way_23 : decode cX8_way 23 = .ok (.aload_n 0, 1) := by decide +kernel
theorem dX8_way_24 : decode cX8_way 24 = .ok (.getfield 18, 3) := by decide +kernel
theorem dX8_way_27 : decode cX8_way 27 = .ok (.iload_n 1, 1) := by decide +kernel
theorem dX8_way_28 : decode cX8_way 28 = .ok (.putfield 83, 3) := by decide +kernel
theorem dX8_way_31 : decode cX8_way 31 = .ok (.aload_n 0, 1) := by decide +kernel
theorem dX8_way_32 : decode cX8_way 32 = .ok (.getfield 18, 3) := by decide +kernel
theorem dX8_way_35 : decode cX8_way 35 = .ok (.iload_n 2, 1) := by decide +kernel
theorem dX8_way_36 : decode cX8_way 36 = .ok (.putfield 86, 3) := by decide +kernel
theorem dX8_way_39 : decode cX8_way 39 = .ok (.iconst 1, 1) := by decide +kernel
theorem dX8_way_40 : decode cX8_way 40 = .ok (.ireturn, 1) := by decide +kernel
theorem dX8_clip_0 : decode cX8_clip 0 = .ok (.aload_n 0, 1) := by decide +kernel
theorem dX8_clip_1 : decode cX8_clip 1 = .ok (.getfield 18, 3) := by decide +kernel
theorem dX8_clip_4 : decode cX8_clip 4 = .ok (.getfield 89, 3) := by decide +kernel
theorem dX8_clip_7 : decode cX8_clip 7 = .ok (.iload_n 1, 1) := by decide +kernel
theorem dX8_clip_8 : decode cX8_clip 8 = .ok (.iload_n 2, 1) := by decide +kernel
theorem dX8_clip_9 : decode cX8_clip 9 = .ok (.iload_n 3, 1) := by decide +kernel
theorem dX8_clip_10 : decode cX8_clip 10 = .ok (.iload 4, 2) := by decide +kernel
theorem dX8_clip_12 : decode cX8_clip 12 = .ok (.invokevirtual 92, 3) := by decide +kernel
theorem dX8_clip_15 : decode cX8_clip 15 = .ok (.return_, 1) := by decide +kernel
theorem dX8_dashes_0 : decode cX8_dashes 0 = .ok (.aload_n 0, 1) := by decide +kernel
theorem dX8_dashes_1 : decode cX8_dashes 1 = .ok (.iload_n 1, 1) := by decide +kernel
theorem dX8_dashes_2 : decode cX8_dashes 2 = .ok (.ldc 50, 2) := by decide +kernel
theorem dX8_dashes_4 : decode cX8_dashes 4 = .ok (.iand, 1) := by decide +kernel
theorem dX8_dashes_5 : decode cX8_dashes 5 = .ok (.putfield 51, 3) := by decide +kernel
theorem dX8_dashes_8 : decode cX8_dashes 8 = .ok (.return_, 1) := by decide +kernel
theorem dX8_line_0 : decode cX8_line 0 = .ok (.aload_n 0, 1) := by decide +kernel
theorem dX8_line_1 : decode cX8_line 1 = .ok (.iload_n 1, 1) := by decide +kernel
theorem dX8_line_2 : decode cX8_line 2 = .ok (.invokevirtual 96, 3) := by decide +kernel
theorem dX8_line_5 : decode cX8_line 5 = .ok (.astore 6, 2) := by decide +kernel
theorem dX8_line_7 : decode cX8_line 7 = .ok (.aload 6, 2) := by decide +kernel
theorem dX8_line_9 : decode cX8_line 9 = .ok (.ifnull 45, 3) := by decide +kernel
theorem dX8_line_12 : decode cX8_line 12 = .ok (.iload_n 2, 1) := by decide +kernel
theorem dX8_line_13 : decode cX8_line 13 = .ok (.sipush 2000, 3) := by decide +kernel
theorem dX8_line_16 : decode cX8_line 16 = .ok (.invokestatic 100, 3) := by decide +kernel
theorem dX8_line_19 : decode cX8_line 19 = .ok (.ifCond .eq 35, 3) := by decide +kernel
theorem dX8_line_22 : decode cX8_line 22 = .ok (.iload_n 3, 1) := by decide +kernel
theorem dX8_line_23 : decode cX8_line 23 = .ok (.sipush 2000, 3) := by decide +kernel
theorem dX8_line_26 : decode cX8_line 26 = .ok (.invokestatic 100, 3) := by decide +kernel
theorem dX8_line_29 : decode cX8_line 29 = .ok (.ifCond .eq 25, 3) := by decide +kernel
theorem dX8_line_32 : decode cX8_line 32 = .ok (.iload 4, 2) := by decide +kernel
theorem dX8_line_34 : decode cX8_line 34 = .ok (.sipush 2000, 3) := by decide +kernel
theorem dX8_line_37 : decode cX8_line 37 = .ok (.invokestatic 100, 3) := by decide +kernel
theorem dX8_line_40 : decode cX8_line 40 = .ok (.ifCond .eq 14, 3) := by decide +kernel
theorem dX8_line_43 : decode cX8_line 43 = .ok (.iload 5, 2) := by decide +kernel
theorem dX8_line_45 : decode cX8_line 45 = .ok (.sipush 2000, 3) := by decide +kernel
theorem dX8_line_48 : decode cX8_line 48 = .ok (.invokestatic 100, 3) := by decide +kernel
theorem dX8_line_51 : decode cX8_line 51 = .ok (.ifCond .ne 5, 3) := by decide +kernel
theorem dX8_line_54 : decode cX8_line 54 = .ok (.iconst (-1), 1) := by decide +kernel
theorem dX8_line_55 : decode cX8_line 55 = .ok (.ireturn, 1) := by decide +kernel
theorem dX8_line_56 : decode cX8_line 56 = .ok (.iload 4, 2) := by decide +kernel
theorem dX8_line_58 : decode cX8_line 58 = .ok (.iload_n 2, 1) := by decide +kernel
theorem dX8_line_59 : decode cX8_line 59 = .ok (.isub, 1) := by decide +kernel
theorem dX8_line_60 : decode cX8_line 60 = .ok (.invokestatic 104, 3) := by decide +kernel
theorem dX8_line_63 : decode cX8_line 63 = .ok (.istore 7, 2) := by decide +kernel
theorem dX8_line_65 : decode cX8_line 65 = .ok (.iload 5, 2) := by decide +kernel
theorem dX8_line_67 : decode cX8_line 67 = .ok (.iload_n 3, 1) := by decide +kernel
theorem dX8_line_68 : decode cX8_line 68 = .ok (.isub, 1) := by decide +kernel
theorem dX8_line_69 : decode cX8_line 69 = .ok (.invokestatic 104, 3) := by decide +kernel
theorem dX8_line_72 : decode cX8_line 72 = .ok (.istore 8, 2) := by decide +kernel
theorem dX8_line_74 : decode cX8_line 74 = .ok (.iload 4, 2) := by decide +kernel
theorem dX8_line_76 : decode cX8_line 76 = .ok (.iload_n 2, 1) := by decide +kernel
theorem dX8_line_77 : decode cX8_line 77 = .ok (.invokestatic 109, 3) := by decide +kernel
theorem dX8_line_80 : decode cX8_line 80 = .ok (.istore 9, 2) := by decide +kernel
theorem dX8_line_82 : decode cX8_line 82 = .ok (.iload 5, 2) := by decide +kernel
theorem dX8_line_84 : decode cX8_line 84 = .ok (.iload_n 3, 1) := by decide +kernel
theorem dX8_line_85 : decode cX8_line 85 = .ok (.invokestatic 109, 3) := by decide +kernel
theorem dX8_line_88 : decode cX8_line 88 = .ok (.istore 10, 2) := by decide +kernel
theorem dX8_line_90 : decode cX8_line 90 = .ok (.iload 7, 2) := by decide +kernel
theorem dX8_line_92 : decode cX8_line 92 = .ok (.iload 8, 2) := by decide +kernel
theorem dX8_line_94 : decode cX8_line 94 = .ok (.invokestatic 115, 3) := by decide +kernel
theorem dX8_line_97 : decode cX8_line 97 = .ok (.istore 11, 2) := by decide +kernel
theorem dX8_line_99 : decode cX8_line 99 = .ok (.iconst 0, 1) := by decide +kernel
theorem dX8_line_100 : decode cX8_line 100 = .ok (.istore 12, 2) := by decide +kernel
theorem dX8_line_102 : decode cX8_line 102 = .ok (.iconst 0, 1) := by decide +kernel
theorem dX8_line_103 : decode cX8_line 103 = .ok (.istore 13, 2) := by decide +kernel
theorem dX8_line_105 : decode cX8_line 105 = .ok (.iload 13, 2) := by decide +kernel
theorem dX8_line_107 : decode cX8_line 107 = .ok (.iload 11, 2) := by decide +kernel
theorem dX8_line_109 : decode cX8_line 109 = .ok (.if_icmp .gt 89, 3) := by decide +kernel
theorem dX8_line_112 : decode cX8_line 112 = .ok (.aload_n 0, 1) := by decide +kernel
theorem dX8_line_113 : decode cX8_line 113 = .ok (.getfield 51, 3) := by decide +kernel
theorem dX8_line_116 : decode cX8_line 116 = .ok (.iload 13, 2) := by decide +kernel
theorem dX8_line_118 : decode cX8_line 118 = .ok (.bipush 15, 2) := by decide +kernel
theorem dX8_line_120 : decode cX8_line 120 = .ok (.iand, 1) := by decide +kernel
theorem dX8_line_121 : decode cX8_line 121 = .ok (.ishr, 1) := by decide +kernel
theorem dX8_line_122 : decode cX8_line 122 = .ok (.iconst 1, 1) := by decide +kernel
theorem dX8_line_123 : decode cX8_line 123 = .ok (.iand, 1) := by decide +kernel
theorem dX8_line_124 : decode cX8_line 124 = .ok (.iconst 1, 1) := by decide +kernel
theorem dX8_line_125 : decode cX8_line 125 = .ok (.if_icmp .ne 67, 3) := by decide +kernel
theorem dX8_line_128 : decode cX8_line 128 = .ok (.iload_n 2, 1) := by decide +kernel
theorem dX8_line_129 : decode cX8_line 129 = .ok (.iload 9, 2) := by decide +kernel
theorem dX8_line_131 : decode cX8_line 131 = .ok (.iload 13, 2) := by decide +kernel
theorem dX8_line_133 : decode cX8_line 133 = .ok (.iload 11, 2) := by decide +kernel
theorem dX8_line_135 : decode cX8_line 135 = .ok (.iload 7, 2) := by decide +kernel
theorem dX8_line_137 : decode cX8_line 137 = .ok (.invokestatic 118, 3) := by decide +kernel
theorem dX8_line_140 : decode cX8_line 140 = .ok (.imul, 1) := by decide +kernel
theorem dX8_line_141 : decode cX8_line 141 = .ok (.iadd, 1) := by decide +kernel
theorem dX8_line_142 : decode cX8_line 142 = .ok (.istore 14, 2) := by decide +kernel
theorem dX8_line_144 : decode cX8_line 144 = .ok (.iload_n 3, 1) := by decide +kernel
theorem dX8_line_145 : decode cX8_line 145 = .ok (.iload 10, 2) := by decide +kernel
theorem dX8_line_147 : decode cX8_line 147 = .ok (.iload 13, 2) := by decide +kernel
theorem dX8_line_149 : decode cX8_line 149 = .ok (.iload 11, 2) := by decide +kernel
theorem dX8_line_151 : decode cX8_line 151 = .ok (.iload 8, 2) := by decide +kernel
theorem dX8_line_153 : decode cX8_line 153 = .ok (.invokestatic 118, 3) := by decide +kernel
theorem dX8_line_156 : decode cX8_line 156 = .ok (.imul, 1) := by decide +kernel
theorem dX8_line_157 : decode cX8_line 157 = .ok (.iadd, 1) := by decide +kernel
theorem dX8_line_158 : decode cX8_line 158 = .ok (.istore 15, 2) := by decide +kernel
theorem dX8_line_160 : decode cX8_line 160 = .ok (.iload 12, 2) := by decide +kernel
theorem dX8_line_162 : decode cX8_line 162 = .ok (.aload_n 0, 1) := by decide +kernel
theorem dX8_line_163 : decode cX8_line 163 = .ok (.getfield 18, 3) := by decide +kernel
theorem dX8_line_166 : decode cX8_line 166 = .ok (.aload 6, 2) := by decide +kernel
theorem dX8_line_168 : decode cX8_line 168 = .ok (.iload 14, 2) := by decide +kernel
theorem dX8_line_170 : decode cX8_line 170 = .ok (.iload 15, 2) := by decide +kernel
theorem dX8_line_172 : decode cX8_line 172 = .ok (.aload_n 0, 1) := by decide +kernel
theorem dX8_line_173 : decode cX8_line 173 = .ok (.getfield 18, 3) := by decide +kernel
theorem dX8_line_176 : decode cX8_line 176 = .ok (.getfield 76, 3) := by decide +kernel
theorem dX8_line_179 : decode cX8_line 179 = .ok (.aload_n 0, 1) := by decide +kernel
theorem dX8_line_180 : decode cX8_line 180 = .ok (.getfield 18, 3) := by decide +kernel
theorem dX8_line_183 : decode cX8_line 183 = .ok (.getfield 86, 3) := by decide +kernel
theorem dX8_line_186 : decode cX8_line 186 = .ok (.invokevirtual 122, 3) := by decide +kernel
theorem dX8_line_189 : decode cX8_line 189 = .ok (.iadd, 1) := by decide +kernel
theorem dX8_line_190 : decode cX8_line 190 = .ok (.istore 12, 2) := by decide +kernel
theorem dX8_line_192 : decode cX8_line 192 = .ok (.iinc 13 1, 3) := by decide +kernel
theorem dX8_line_195 : decode cX8_line 195 = .ok (.goto (-90), 3) := by decide +kernel
theorem dX8_line_198 : decode cX8_line 198 = .ok (.iload 12, 2) := by decide +kernel
theorem dX8_line_200 : decode cX8_line 200 = .ok (.ireturn, 1) := by decide +kernel
theorem dX8_circle_0 : decode cX8_circle 0 = .ok (.aload_n 0, 1) := by decide +kernel
theorem dX8_circle_1 : decode cX8_circle 1 = .ok (.iload_n 1, 1) := by decide +kernel
theorem dX8_circle_2 : decode cX8_circle 2 = .ok (.invokevirtual 96, 3) := by decide +kernel
theorem dX8_circle_5 : decode cX8_circle 5 = .ok (.astore 5, 2) := by decide +kernel
theorem dX8_circle_7 : decode cX8_circle 7 = .ok (.aload 5, 2) := by decide +kernel
theorem dX8_circle_9 : decode cX8_circle 9 = .ok (.ifnull 35, 3) := by decide +kernel
theorem dX8_circle_12 : decode cX8_circle 12 = .ok (.iload_n 2, 1) := by decide +kernel
theorem dX8_circle_13 : decode cX8_circle 13 = .ok (.sipush 2000, 3) := by decide +kernel
theorem dX8_circle_16 : decode cX8_circle 16 = .ok (.invokestatic 100, 3) := by decide +kernel
theorem dX8_circle_19 : decode cX8_circle 19 = .ok (.ifCond .eq 25, 3) := by decide +kernel
theorem dX8_circle_22 : decode cX8_circle 22 = .ok (.iload_n 3, 1) := by decide +kernel
theorem dX8_circle_23 : decode cX8_circle 23 = .ok (.sipush 2000, 3) := by decide +kernel
theorem dX8_circle_26 : decode cX8_circle 26 = .ok (.invokestatic 100, 3) := by decide +kernel
theorem dX8_circle_29 : decode cX8_circle 29 = .ok (.ifCond .eq 15, 3) := by decide +kernel
theorem dX8_circle_32 : decode cX8_circle 32 = .ok (.iload 4, 2) := by decide +kernel
theorem dX8_circle_34 : decode cX8_circle 34 = .ok (.iconst 0, 1) := by decide +kernel
theorem dX8_circle_35 : decode cX8_circle 35 = .ok (.sipush 500, 3) := by decide +kernel
theorem dX8_circle_38 : decode cX8_circle 38 = .ok (.invokestatic 79, 3) := by decide +kernel
theorem dX8_circle_41 : decode cX8_circle 41 = .ok (.ifCond .ne 5, 3) := by decide +kernel
theorem dX8_circle_44 : decode cX8_circle 44 = .ok (.iconst (-1), 1) := by decide +kernel
theorem dX8_circle_45 : decode cX8_circle 45 = .ok (.ireturn, 1) := by decide +kernel
theorem dX8_circle_46 : decode cX8_circle 46 = .ok (.iconst 0, 1) := by decide +kernel
theorem dX8_circle_47 : decode cX8_circle 47 = .ok (.istore 6, 2) := by decide +kernel
theorem dX8_circle_49 : decode cX8_circle 49 = .ok (.iload 4, 2) := by decide +kernel
theorem dX8_circle_51 : decode cX8_circle 51 = .ok (.istore 7, 2) := by decide +kernel
theorem dX8_circle_53 : decode cX8_circle 53 = .ok (.iconst 0, 1) := by decide +kernel
theorem dX8_circle_54 : decode cX8_circle 54 = .ok (.istore 8, 2) := by decide +kernel
theorem dX8_circle_56 : decode cX8_circle 56 = .ok (.iload 8, 2) := by decide +kernel
theorem dX8_circle_58 : decode cX8_circle 58 = .ok (.iload 4, 2) := by decide +kernel
theorem dX8_circle_60 : decode cX8_circle 60 = .ok (.if_icmp .gt 78, 3) := by decide +kernel
theorem dX8_circle_63 : decode cX8_circle 63 = .ok (.iload 4, 2) := by decide +kernel
theorem dX8_circle_65 : decode cX8_circle 65 = .ok (.iload 4, 2) := by decide +kernel
theorem dX8_circle_67 : decode cX8_circle 67 = .ok (.imul, 1) := by decide +kernel
theorem dX8_circle_68 : decode cX8_circle 68 = .ok (.iload 8, 2) := by decide +kernel
theorem dX8_circle_70 : decode cX8_circle 70 = .ok (.iload 8, 2) := by decide +kernel
theorem dX8_circle_72 : decode cX8_circle 72 = .ok (.imul, 1) := by decide +kernel
theorem dX8_circle_73 : decode cX8_circle 73 = .ok (.isub, 1) := by decide +kernel
theorem dX8_circle_74 : decode cX8_circle 74 = .ok (.iload 7, 2) := by decide +kernel
theorem dX8_circle_76 : decode cX8_circle 76 = .ok (.invokestatic 126, 3) := by decide +kernel
theorem dX8_circle_79 : decode cX8_circle 79 = .ok (.istore 7, 2) := by decide +kernel
theorem dX8_circle_81 : decode cX8_circle 81 = .ok (.iload 8, 2) := by decide +kernel
theorem dX8_circle_83 : decode cX8_circle 83 = .ok (.iload 7, 2) := by decide +kernel
theorem dX8_circle_85 : decode cX8_circle 85 = .ok (.if_icmp .le 6, 3) := by decide +kernel
theorem dX8_circle_88 : decode cX8_circle 88 = .ok (.goto 50, 3) := by decide +kernel
theorem dX8_circle_91 : decode cX8_circle 91 = .ok (.iload 6, 2) := by decide +kernel
theorem dX8_circle_93 : decode cX8_circle 93 = .ok (.aload_n 0, 1) := by decide +kernel
theorem dX8_circle_94 : decode cX8_circle 94 = .ok (.aload 5, 2) := by decide +kernel
theorem dX8_circle_96 : decode cX8_circle 96 = .ok (.iload_n 2, 1) := by decide +kernel
theorem dX8_circle_97 : decode cX8_circle 97 = .ok (.iload_n 3, 1) := by decide +kernel
theorem dX8_circle_98 : decode cX8_circle 98 = .ok (.iload 8, 2) := by decide +kernel
theorem dX8_circle_100 : decode cX8_circle 100 = .ok (.iload 7, 2) := by decide +kernel
theorem dX8_circle_102 : decode cX8_circle 102 = .ok (.invokevirtual 129, 3) := by decide +kernel
theorem dX8_circle_105 : decode cX8_circle 105 = .ok (.iadd, 1) := by decide +kernel
theorem dX8_circle_106 : decode cX8_circle 106 = .ok (.istore 6, 2) := by decide +kernel
theorem dX8_circle_108 : decode cX8_circle 108 = .ok (.iload 8, 2) := by decide +kernel
theorem dX8_circle_110 : decode cX8_circle 110 = .ok (.iload 7, 2) := by decide +kernel
theorem dX8_circle_112 : decode cX8_circle 112 = .ok (.if_icmp .eq 20, 3) := by decide +kernel
theorem dX8_circle_115 : decode cX8_circle 115 = .ok (.iload 6, 2) := by decide +kernel
theorem dX8_circle_117 : decode cX8_circle 117 = .ok (.aload_n 0, 1) := by decide +kernel
theorem dX8_circle_118 : decode cX8_circle 118 = .ok (.aload 5, 2) := by decide +kernel
theorem dX8_circle_120 : decode cX8_circle 120 = .ok (.iload_n 2, 1) := by decide +kernel
theorem dX8_circle_121 : decode cX8_circle 121 = .ok (.iload_n 3, 1) := by decide +kernel
theorem dX8_circle_122 : decode cX8_circle 122 = .ok (.iload 7, 2) := by decide +kernel
theorem dX8_circle_124 : decode cX8_circle 124 = .ok (.iload 8, 2) := by decide +kernel
theorem dX8_circle_126 : decode cX8_circle 126 = .ok (.invokevirtual 129, 3) := by decide +kernel
theorem dX8_circle_129 : decode cX8_circle 129 = .ok (.iadd, 1) := by decide +kernel
theorem dX8_circle_130 : decode cX8_circle 130 = .ok (.istore 6, 2) := by decide +kernel
theorem dX8_circle_132 : decode cX8_circle 132 = .ok (.iinc 8 1, 3) := by decide +kernel
theorem dX8_circle_135 : decode cX8_circle 135 = .ok (.goto (-79), 3) := by decide +kernel
theorem dX8_circle_138 : decode cX8_circle 138 = .ok (.iload 6, 2) := by decide +kernel
theorem dX8_circle_140 : decode cX8_circle 140 = .ok (.ireturn, 1) := by decide +kernel
theorem dX8_point_0 : decode cX8_point 0 = .ok (.iload_n 1, 1) := by decide +kernel
theorem dX8_point_1 : decode cX8_point 1 = .ok (.sipush 4096, 3) := by decide +kernel
theorem dX8_point_4 : decode cX8_point 4 = .ok (.invokestatic 100, 3) := by decide +kernel
theorem dX8_point_7 : decode cX8_point 7 = .ok (.ifCond .eq 13, 3) := by decide +kernel
theorem dX8_point_10 : decode cX8_point 10 = .ok (.iload_n 2, 1) := by decide +kernel
theorem dX8_point_11 : decode cX8_point 11 = .ok (.sipush 4096, 3) := by decide +kernel
theorem dX8_point_14 : decode cX8_point 14 = .ok (.invokestatic 100, 3) := by decide +kernel
theorem dX8_point_17 : decode cX8_point 17 = .ok (.ifCond .ne 5, 3) := by decide +kernel
theorem dX8_point_20 : decode cX8_point 20 = .ok (.iconst (-1), 1) := by decide +kernel
theorem dX8_point_21 : decode cX8_point 21 = .ok (.ireturn, 1) := by decide +kernel
theorem dX8_point_22 : decode cX8_point 22 = .ok (.aload_n 0, 1) := by decide +kernel
theorem dX8_point_23 : decode cX8_point 23 = .ok (.getfield 32, 3) := by decide +kernel
theorem dX8_point_26 : decode cX8_point 26 = .ok (.iconst 2, 1) := by decide +kernel
theorem dX8_point_27 : decode cX8_point 27 = .ok (.iload_n 1, 1) := by decide +kernel
theorem dX8_point_28 : decode cX8_point 28 = .ok (.imul, 1) := by decide +kernel
theorem dX8_point_29 : decode cX8_point 29 = .ok (.iconst 2, 1) := by decide +kernel
theorem dX8_point_30 : decode cX8_point 30 = .ok (.iload_n 2, 1) := by decide +kernel
theorem dX8_point_31 : decode cX8_point 31 = .ok (.imul, 1) := by decide +kernel
theorem dX8_point_32 : decode cX8_point 32 = .ok (.iload_n 3, 1) := by decide +kernel
theorem dX8_point_33 : decode cX8_point 33 = .ok (.invokevirtual 132, 3) := by decide +kernel
theorem dX8_point_36 : decode cX8_point 36 = .ok (.ifCond .eq 13, 3) := by decide +kernel
theorem dX8_point_39 : decode cX8_point 39 = .ok (.aload_n 0, 1) := by decide +kernel
theorem dX8_point_40 : decode cX8_point 40 = .ok (.getfield 32, 3) := by decide +kernel
theorem dX8_point_43 : decode cX8_point 43 = .ok (.getfield 136, 3) := by decide +kernel
theorem dX8_point_46 : decode cX8_point 46 = .ok (.goto 4, 3) := by decide +kernel
theorem dX8_point_49 : decode cX8_point 49 = .ok (.iconst (-1), 1) := by decide +kernel
theorem dX8_point_50 : decode cX8_point 50 = .ok (.ireturn, 1) := by decide +kernel
theorem dX8_clear_0 : decode cX8_clear 0 = .ok (.aload_n 0, 1) := by decide +kernel
theorem dX8_clear_1 : decode cX8_clear 1 = .ok (.getfield 32, 3) := by decide +kernel
theorem dX8_clear_4 : decode cX8_clear 4 = .ok (.invokevirtual 139, 3) := by decide +kernel
theorem dX8_clear_7 : decode cX8_clear 7 = .ok (.return_, 1) := by decide +kernel
theorem dX8_fill_0 : decode cX8_fill 0 = .ok (.aload_n 0, 1) := by decide +kernel
theorem dX8_fill_1 : decode cX8_fill 1 = .ok (.iload_n 1, 1) := by decide +kernel
theorem dX8_fill_2 : decode cX8_fill 2 = .ok (.invokevirtual 96, 3) := by decide +kernel
theorem dX8_fill_5 : decode cX8_fill 5 = .ok (.astore 4, 2) := by decide +kernel
theorem dX8_fill_7 : decode cX8_fill 7 = .ok (.aload 4, 2) := by decide +kernel
theorem dX8_fill_9 : decode cX8_fill 9 = .ok (.ifnull 10, 3) := by decide +kernel
theorem dX8_fill_12 : decode cX8_fill 12 = .ok (.iload_n 2, 1) := by decide +kernel
theorem dX8_fill_13 : decode cX8_fill 13 = .ok (.invokestatic 142, 3) := by decide +kernel
theorem dX8_fill_16 : decode cX8_fill 16 = .ok (.ifCond .ne 5, 3) := by decide +kernel
theorem dX8_fill_19 : decode cX8_fill 19 = .ok (.iconst (-1), 1) := by decide +kernel
theorem dX8_fill_20 : decode cX8_fill 20 = .ok (.ireturn, 1) := by decide +kernel
theorem dX8_fill_21 : decode cX8_fill 21 = .ok (.iconst 0, 1) := by decide +kernel
theorem dX8_fill_22 : decode cX8_fill 22 = .ok (.istore 5, 2) := by decide +kernel
theorem dX8_fill_24 : decode cX8_fill 24 = .ok (.iconst 0, 1) := by decide +kernel
theorem dX8_fill_25 : decode cX8_fill 25 = .ok (.istore 6, 2) := by decide +kernel
theorem dX8_fill_27 : decode cX8_fill 27 = .ok (.iload 6, 2) := by decide +kernel
theorem dX8_fill_29 : decode cX8_fill 29 = .ok (.aload 4, 2) := by decide +kernel
theorem dX8_fill_31 : decode cX8_fill 31 = .ok (.getfield 145, 3) := by decide +kernel
theorem dX8_fill_34 : decode cX8_fill 34 = .ok (.if_icmp .ge 124, 3) := by decide +kernel
theorem dX8_fill_37 : decode cX8_fill 37 = .ok (.aload_n 0, 1) := by decide +kernel
theorem dX8_fill_38 : decode cX8_fill 38 = .ok (.getfield 46, 3) := by decide +kernel
theorem dX8_fill_41 : decode cX8_fill 41 = .ok (.aload_n 0, 1) := by decide +kernel
theorem dX8_fill_42 : decode cX8_fill 42 = .ok (.getfield 32, 3) := by decide +kernel
theorem dX8_fill_45 : decode cX8_fill 45 = .ok (.iload 6, 2) := by decide +kernel
theorem dX8_fill_47 : decode cX8_fill 47 = .ok (.aload 4, 2) := by decide +kernel
theorem dX8_fill_49 : decode cX8_fill 49 = .ok (.getfield 148, 3) := by decide +kernel
theorem dX8_fill_52 : decode cX8_fill 52 = .ok (.iload_n 3, 1) := by decide +kernel
theorem dX8_fill_53 : decode cX8_fill 53 = .ok (.ifCond .eq 7, 3) := by decide +kernel
theorem dX8_fill_56 : decode cX8_fill 56 = .ok (.iconst 3, 1) := by decide +kernel
theorem dX8_fill_57 : decode cX8_fill 57 = .ok (.goto 4, 3) := by decide +kernel
theorem dX8_fill_60 : decode cX8_fill 60 = .ok (.iconst 5, 1) := by decide +kernel
theorem dX8_fill_61 : decode cX8_fill 61 = .ok (.iload_n 2, 1) := by decide +kernel
theorem dX8_fill_62 : decode cX8_fill 62 = .ok (.invokevirtual 151, 3) := by decide +kernel
theorem dX8_fill_65 : decode cX8_fill 65 = .ok (.iconst 0, 1) := by decide +kernel
theorem dX8_fill_66 : decode cX8_fill 66 = .ok (.istore 7, 2) := by decide +kernel
theorem dX8_fill_68 : decode cX8_fill 68 = .ok (.iload 7, 2) := by decide +kernel
theorem dX8_fill_70 : decode cX8_fill 70 = .ok (.aload 4, 2) := by decide +kernel
theorem dX8_fill_72 : decode cX8_fill 72 = .ok (.getfield 148, 3) := by decide +kernel
theorem dX8_fill_75 : decode cX8_fill 75 = .ok (.if_icmp .ge 77, 3) := by decide +kernel
theorem dX8_fill_78 : decode cX8_fill 78 = .ok (.aload_n 0, 1) := by decide +kernel
theorem dX8_fill_79 : decode cX8_fill 79 = .ok (.getfield 46, 3) := by decide +kernel
theorem dX8_fill_82 : decode cX8_fill 82 = .ok (.iload 7, 2) := by decide +kernel
theorem dX8_fill_84 : decode cX8_fill 84 = .ok (.invokevirtual 155, 3) := by decide +kernel
theorem dX8_fill_87 : decode cX8_fill 87 = .ok (.istore 8, 2) := by decide +kernel
theorem dX8_fill_89 : decode cX8_fill 89 = .ok (.iload 8, 2) := by decide +kernel
theorem dX8_fill_91 : decode cX8_fill 91 = .ok (.ifCond .eq 55, 3) := by decide +kernel
theorem dX8_fill_94 : decode cX8_fill 94 = .ok (.iload_n 3, 1) := by decide +kernel
theorem dX8_fill_95 : decode cX8_fill 95 = .ok (.ifCond .eq 15, 3) := by decide +kernel
theorem dX8_fill_98 : decode cX8_fill 98 = .ok (.aload_n 0, 1) := by decide +kernel
theorem dX8_fill_99 : decode cX8_fill 99 = .ok (.getfield 18, 3) := by decide +kernel
theorem dX8_fill_102 : decode cX8_fill 102 = .ok (.iload 8, 2) := by decide +kernel
theorem dX8_fill_104 : decode cX8_fill 104 = .ok (.invokevirtual 158, 3) := by decide +kernel
theorem dX8_fill_107 : decode cX8_fill 107 = .ok (.goto 10, 3) := by decide +kernel
theorem dX8_fill_110 : decode cX8_fill 110 = .ok (.aload_n 0, 1) := by decide +kernel
theorem dX8_fill_111 : decode cX8_fill 111 = .ok (.getfield 18, 3) := by decide +kernel
theorem dX8_fill_114 : decode cX8_fill 114 = .ok (.getfield 86, 3) := by decide +kernel
theorem dX8_fill_117 : decode cX8_fill 117 = .ok (.istore 9, 2) := by decide +kernel
theorem dX8_fill_119 : decode cX8_fill 119 = .ok (.iload 5, 2) := by decide +kernel
theorem dX8_fill_121 : decode cX8_fill 121 = .ok (.aload_n 0, 1) := by decide +kernel
theorem dX8_fill_122 : decode cX8_fill 122 = .ok (.getfield 18, 3) := by decide +kernel
theorem dX8_fill_125 : decode cX8_fill 125 = .ok (.aload 4, 2) := by decide +kernel
theorem dX8_fill_127 : decode cX8_fill 127 = .ok (.iload 7, 2) := by decide +kernel
theorem dX8_fill_129 : decode cX8_fill 129 = .ok (.iload 6, 2) := by decide +kernel
theorem dX8_fill_131 : decode cX8_fill 131 = .ok (.aload_n 0, 1) := by decide +kernel
theorem dX8_fill_132 : decode cX8_fill 132 = .ok (.getfield 18, 3) := by decide +kernel
theorem dX8_fill_135 : decode cX8_fill 135 = .ok (.getfield 76, 3) := by decide +kernel
theorem dX8_fill_138 : decode cX8_fill 138 = .ok (.iload 9, 2) := by decide +kernel
theorem dX8_fill_140 : decode cX8_fill 140 = .ok (.invokevirtual 122, 3) := by decide +kernel
theorem dX8_fill_143 : decode cX8_fill 143 = .ok (.iadd, 1) := by decide +kernel
theorem dX8_fill_144 : decode cX8_fill 144 = .ok (.istore 5, 2) := by decide +kernel
theorem dX8_fill_146 : decode cX8_fill 146 = .ok (.iinc 7 1, 3) := by decide +kernel
theorem dX8_fill_149 : decode cX8_fill 149 = .ok (.goto (-81), 3) := by decide +kernel
theorem dX8_fill_152 : decode cX8_fill 152 = .ok (.iinc 6 1, 3) := by decide +kernel
theorem dX8_fill_155 : decode cX8_fill 155 = .ok (.goto (-128), 3) := by decide +kernel
theorem dX8_fill_158 : decode cX8_fill 158 = .ok (.iload 5, 2) := by decide +kernel
theorem dX8_fill_160 : decode cX8_fill 160 = .ok (.ireturn, 1) := by decide +kernel
theorem dX8_corner_0 : decode cX8_corner 0 = .ok (.iload_n 1, 1) := by decide +kernel
theorem dX8_corner_1 : decode cX8_corner 1 = .ok (.ifCond .lt 28, 3) := by decide +kernel
theorem dX8_corner_4 : decode cX8_corner 4 = .ok (.iload_n 1, 1) := by decide +kernel
theorem dX8_corner_5 : decode cX8_corner 5 = .ok (.iconst 3, 1) := by decide +kernel
theorem dX8_corner_6 : decode cX8_corner 6 = .ok (.if_icmp .ge 23, 3) := by decide +kernel
theorem dX8_corner_9 : decode cX8_corner 9 = .ok (.iload_n 2, 1) := by decide +kernel
theorem dX8_corner_10 : decode cX8_corner 10 = .ok (.sipush 200, 3) := by decide +kernel
theorem dX8_corner_13 : decode cX8_corner 13 = .ok (.invokestatic 100, 3) := by decide +kernel
theorem dX8_corner_16 : decode cX8_corner 16 = .ok (.ifCond .eq 13, 3) := by decide +kernel
theorem dX8_corner_19 : decode cX8_corner 19 = .ok (.iload_n 3, 1) := by decide +kernel
theorem dX8_corner_20 : decode cX8_corner 20 = .ok (.sipush 200, 3) := by decide +kernel
theorem dX8_corner_23 : decode cX8_corner 23 = .ok (.invokestatic 100, 3) := by decide +kernel
theorem dX8_corner_26 : decode cX8_corner 26 = .ok (.ifCond .ne 5, 3) := by decide +kernel
theorem dX8_corner_29 : decode cX8_corner 29 = .ok (.iconst 0, 1) := by decide +kernel
theorem dX8_corner_30 : decode cX8_corner 30 = .ok (.ireturn, 1) := by decide +kernel
theorem dX8_corner_31 : decode cX8_corner 31 = .ok (.aload_n 0, 1) := by decide +kernel
theorem dX8_corner_32 : decode cX8_corner 32 = .ok (.getfield 39, 3) := by decide +kernel
theorem dX8_corner_35 : decode cX8_corner 35 = .ok (.iload_n 1, 1) := by decide +kernel
theorem dX8_corner_36 : decode cX8_corner 36 = .ok (.iload_n 2, 1) := by decide +kernel
theorem dX8_corner_37 : decode cX8_corner 37 = .ok (.iload_n 3, 1) := by decide +kernel
theorem dX8_corner_38 : decode cX8_corner 38 = .ok (.iload 4, 2) := by decide +kernel
theorem dX8_corner_40 : decode cX8_corner 40 = .ok (.invokestatic 72, 3) := by decide +kernel
theorem dX8_corner_43 : decode cX8_corner 43 = .ok (.invokevirtual 161, 3) := by decide +kernel
theorem dX8_corner_46 : decode cX8_corner 46 = .ok (.iconst 1, 1) := by decide +kernel
theorem dX8_corner_47 : decode cX8_corner 47 = .ok (.ireturn, 1) := by decide +kernel
theorem dX8_shade_0 : decode cX8_shade 0 = .ok (.aload_n 0, 1) := by decide +kernel
theorem dX8_shade_1 : decode cX8_shade 1 = .ok (.iload_n 1, 1) := by decide +kernel
theorem dX8_shade_2 : decode cX8_shade 2 = .ok (.invokevirtual 96, 3) := by decide +kernel
theorem dX8_shade_5 : decode cX8_shade 5 = .ok (.astore_n 2, 1) := by decide +kernel
theorem dX8_shade_6 : decode cX8_shade 6 = .ok (.aload_n 2, 1) := by decide +kernel
theorem dX8_shade_7 : decode cX8_shade 7 = .ok (.ifnonnull 5, 3) := by decide +kernel
theorem dX8_shade_10 : decode cX8_shade 10 = .ok (.iconst (-1), 1) := by decide +kernel
theorem dX8_shade_11 : decode cX8_shade 11 = .ok (.ireturn, 1) := by decide +kernel
theorem dX8_shade_12 : decode cX8_shade 12 = .ok (.aload_n 0, 1) := by decide +kernel
theorem dX8_shade_13 : decode cX8_shade 13 = .ok (.getfield 39, 3) := by decide +kernel
theorem dX8_shade_16 : decode cX8_shade 16 = .ok (.invokevirtual 164, 3) := by decide +kernel
theorem dX8_shade_19 : decode cX8_shade 19 = .ok (.iconst 0, 1) := by decide +kernel
theorem dX8_shade_20 : decode cX8_shade 20 = .ok (.istore_n 3, 1) := by decide +kernel
theorem dX8_shade_21 : decode cX8_shade 21 = .ok (.iconst 0, 1) := by decide +kernel
theorem dX8_shade_22 : decode cX8_shade 22 = .ok (.istore 4, 2) := by decide +kernel
theorem dX8_shade_24 : decode cX8_shade 24 = .ok (.iload 4, 2) := by decide +kernel
theorem dX8_shade_26 : decode cX8_shade 26 = .ok (.aload_n 2, 1) := by decide +kernel
theorem dX8_shade_27 : decode cX8_shade 27 = .ok (.getfield 145, 3) := by decide +kernel
theorem dX8_shade_30 : decode cX8_shade 30 = .ok (.if_icmp .ge 94, 3) := by decide +kernel
theorem dX8_shade_33 : decode cX8_shade 33 = .ok (.aload_n 0, 1) := by decide +kernel
theorem dX8_shade_34 : decode cX8_shade 34 = .ok (.getfield 46, 3) := by decide +kernel
theorem dX8_shade_37 : decode cX8_shade 37 = .ok (.aload_n 0, 1) := by decide +kernel
theorem dX8_shade_38 : decode cX8_shade 38 = .ok (.getfield 39, 3) := by decide +kernel
theorem dX8_shade_41 : decode cX8_shade 41 = .ok (.getfield 167, 3) := by decide +kernel
theorem dX8_shade_44 : decode cX8_shade 44 = .ok (.iload 4, 2) := by decide +kernel
theorem dX8_shade_46 : decode cX8_shade 46 = .ok (.aload_n 2, 1) := by decide +kernel
theorem dX8_shade_47 : decode cX8_shade 47 = .ok (.getfield 148, 3) := by decide +kernel
theorem dX8_shade_50 : decode cX8_shade 50 = .ok (.iconst 5, 1) := by decide +kernel
theorem dX8_shade_51 : decode cX8_shade 51 = .ok (.iconst 1, 1) := by decide +kernel
theorem dX8_shade_52 : decode cX8_shade 52 = .ok (.invokevirtual 151, 3) := by decide +kernel
theorem dX8_shade_55 : decode cX8_shade 55 = .ok (.iconst 0, 1) := by decide +kernel
theorem dX8_shade_56 : decode cX8_shade 56 = .ok (.istore 5, 2) := by decide +kernel
theorem dX8_shade_58 : decode cX8_shade 58 = .ok (.iload 5, 2) := by decide +kernel
theorem dX8_shade_60 : decode cX8_shade 60 = .ok (.aload_n 2, 1) := by decide +kernel
theorem dX8_shade_61 : decode cX8_shade 61 = .ok (.getfield 148, 3) := by decide +kernel
theorem dX8_shade_64 : decode cX8_shade 64 = .ok (.if_icmp .ge 54, 3) := by decide +kernel
theorem dX8_shade_67 : decode cX8_shade 67 = .ok (.aload_n 0, 1) := by decide +kernel
theorem dX8_shade_68 : decode cX8_shade 68 = .ok (.getfield 46, 3) := by decide +kernel
theorem dX8_shade_71 : decode cX8_shade 71 = .ok (.iload 5, 2) := by decide +kernel
theorem dX8_shade_73 : decode cX8_shade 73 = .ok (.invokevirtual 155, 3) := by decide +kernel
theorem dX8_shade_76 : decode cX8_shade 76 = .ok (.ifCond .eq 36, 3) := by decide +kernel
theorem dX8_shade_79 : decode cX8_shade 79 = .ok (.iload_n 3, 1) := by decide +kernel
theorem dX8_shade_80 : decode cX8_shade 80 = .ok (.aload_n 0, 1) := by decide +kernel
theorem dX8_shade_81 : decode cX8_shade 81 = .ok (.getfield 18, 3) := by decide +kernel
theorem dX8_shade_84 : decode cX8_shade 84 = .ok (.aload_n 2, 1) := by decide +kernel
theorem dX8_shade_85 : decode cX8_shade 85 = .ok (.iload 5, 2) := by decide +kernel
theorem dX8_shade_87 : decode cX8_shade 87 = .ok (.iload 4, 2) := by decide +kernel
theorem dX8_shade_89 : decode cX8_shade 89 = .ok (.aload_n 0, 1) := by decide +kernel
theorem dX8_shade_90 : decode cX8_shade 90 = .ok (.getfield 39, 3) := by decide +kernel
theorem dX8_shade_93 : decode cX8_shade 93 = .ok (.iload 5, 2) := by decide +kernel
theorem dX8_shade_95 : decode cX8_shade 95 = .ok (.iload 4, 2) := by decide +kernel
theorem dX8_shade_97 : decode cX8_shade 97 = .ok (.invokevirtual 170, 3) := by decide +kernel
theorem dX8_shade_100 : decode cX8_shade 100 = .ok (.aload_n 0, 1) := by decide +kernel
theorem dX8_shade_101 : decode cX8_shade 101 = .ok (.getfield 18, 3) := by decide +kernel
theorem dX8_shade_104 : decode cX8_shade 104 = .ok (.getfield 86, 3) := by decide +kernel
theorem dX8_shade_107 : decode cX8_shade 107 = .ok (.invokevirtual 122, 3) := by decide +kernel
theorem dX8_shade_110 : decode cX8_shade 110 = .ok (.iadd, 1) := by decide +kernel
theorem dX8_shade_111 : decode cX8_shade 111 = .ok (.istore_n 3, 1) := by decide +kernel
theorem dX8_shade_112 : decode cX8_shade 112 = .ok (.iinc 5 1, 3) := by decide +kernel
theorem dX8_shade_115 : decode cX8_shade 115 = .ok (.goto (-57), 3) := by decide +kernel
theorem dX8_shade_118 : decode cX8_shade 118 = .ok (.iinc 4 1, 3) := by decide +kernel
theorem dX8_shade_121 : decode cX8_shade 121 = .ok (.goto (-97), 3) := by decide +kernel
theorem dX8_shade_124 : decode cX8_shade 124 = .ok (.iload_n 3, 1) := by decide +kernel
theorem dX8_shade_125 : decode cX8_shade 125 = .ok (.ireturn, 1) := by decide +kernel
theorem dX8_flood_0 : decode cX8_flood 0 = .ok (.aload_n 0, 1) := by decide +kernel
theorem dX8_flood_1 : decode cX8_flood 1 = .ok (.iload_n 1, 1) := by decide +kernel
theorem dX8_flood_2 : decode cX8_flood 2 = .ok (.invokevirtual 96, 3) := by decide +kernel
theorem dX8_flood_5 : decode cX8_flood 5 = .ok (.astore 5, 2) := by decide +kernel
theorem dX8_flood_7 : decode cX8_flood 7 = .ok (.aload 5, 2) := by decide +kernel
theorem dX8_flood_9 : decode cX8_flood 9 = .ok (.ifnull 13, 3) := by decide +kernel
theorem dX8_flood_12 : decode cX8_flood 12 = .ok (.aload 5, 2) := by decide +kernel
theorem dX8_flood_14 : decode cX8_flood 14 = .ok (.iload_n 2, 1) := by decide +kernel
theorem dX8_flood_15 : decode cX8_flood 15 = .ok (.iload_n 3, 1) := by decide +kernel
theorem dX8_flood_16 : decode cX8_flood 16 = .ok (.invokevirtual 173, 3) := by decide +kernel
theorem dX8_flood_19 : decode cX8_flood 19 = .ok (.ifCond .ne 5, 3) := by decide +kernel
theorem dX8_flood_22 : decode cX8_flood 22 = .ok (.iconst (-1), 1) := by decide +kernel
theorem dX8_flood_23 : decode cX8_flood 23 = .ok (.ireturn, 1) := by decide +kernel
theorem dX8_flood_24 : decode cX8_flood 24 = .ok (.aload_n 0, 1) := by decide +kernel
theorem dX8_flood_25 : decode cX8_flood 25 = .ok (.aload 5, 2) := by decide +kernel
theorem dX8_flood_27 : decode cX8_flood 27 = .ok (.aload_n 0, 1) := by decide +kernel
theorem dX8_flood_28 : decode cX8_flood 28 = .ok (.getfield 18, 3) := by decide +kernel
theorem dX8_flood_31 : decode cX8_flood 31 = .ok (.getfield 89, 3) := by decide +kernel
theorem dX8_flood_34 : decode cX8_flood 34 = .ok (.iload_n 2, 1) := by decide +kernel
theorem dX8_flood_35 : decode cX8_flood 35 = .ok (.iload_n 3, 1) := by decide +kernel
theorem dX8_flood_36 : decode cX8_flood 36 = .ok (.iload 4, 2) := by decide +kernel
theorem dX8_flood_38 : decode cX8_flood 38 = .ok (.invokevirtual 176, 3) := by decide +kernel
theorem dX8_flood_41 : decode cX8_flood 41 = .ok (.astore 6, 2) := by decide +kernel
theorem dX8_flood_43 : decode cX8_flood 43 = .ok (.iconst 0, 1) := by decide +kernel
theorem dX8_flood_44 : decode cX8_flood 44 = .ok (.istore 7, 2) := by decide +kernel
theorem dX8_flood_46 : decode cX8_flood 46 = .ok (.iconst 0, 1) := by decide +kernel
theorem dX8_flood_47 : decode cX8_flood 47 = .ok (.istore 8, 2) := by decide +kernel
theorem dX8_flood_49 : decode cX8_flood 49 = .ok (.iload 8, 2) := by decide +kernel
theorem dX8_flood_51 : decode cX8_flood 51 = .ok (.aload 6, 2) := by decide +kernel
theorem dX8_flood_53 : decode cX8_flood 53 = .ok (.getfield 180, 3) := by decide +kernel
theorem dX8_flood_56 : decode cX8_flood 56 = .ok (.if_icmp .ge 51, 3) := by decide +kernel
theorem dX8_flood_59 : decode cX8_flood 59 = .ok (.iload 7, 2) := by decide +kernel
theorem dX8_flood_61 : decode cX8_flood 61 = .ok (.aload_n 0, 1) := by decide +kernel
theorem dX8_flood_62 : decode cX8_flood 62 = .ok (.getfield 18, 3) := by decide +kernel
theorem dX8_flood_65 : decode cX8_flood 65 = .ok (.aload 5, 2) := by decide +kernel
theorem dX8_flood_67 : decode cX8_flood 67 = .ok (.aload 6, 2) := by decide +kernel
theorem dX8_flood_69 : decode cX8_flood 69 = .ok (.iload 8, 2) := by decide +kernel
theorem dX8_flood_71 : decode cX8_flood 71 = .ok (.invokevirtual 185, 3) := by decide +kernel
theorem dX8_flood_74 : decode cX8_flood 74 = .ok (.aload 6, 2) := by decide +kernel
theorem dX8_flood_76 : decode cX8_flood 76 = .ok (.iload 8, 2) := by decide +kernel
theorem dX8_flood_78 : decode cX8_flood 78 = .ok (.invokevirtual 188, 3) := by decide +kernel
theorem dX8_flood_81 : decode cX8_flood 81 = .ok (.aload_n 0, 1) := by decide +kernel
theorem dX8_flood_82 : decode cX8_flood 82 = .ok (.getfield 18, 3) := by decide +kernel
theorem dX8_flood_85 : decode cX8_flood 85 = .ok (.getfield 76, 3) := by decide +kernel
theorem dX8_flood_88 : decode cX8_flood 88 = .ok (.aload_n 0, 1) := by decide +kernel
theorem dX8_flood_89 : decode cX8_flood 89 = .ok (.getfield 18, 3) := by decide +kernel
theorem dX8_flood_92 : decode cX8_flood 92 = .ok (.getfield 86, 3) := by decide +kernel
theorem dX8_flood_95 : decode cX8_flood 95 = .ok (.invokevirtual 122, 3) := by decide +kernel
theorem dX8_flood_98 : decode cX8_flood 98 = .ok (.iadd, 1) := by decide +kernel
theorem dX8_flood_99 : decode cX8_flood 99 = .ok (.istore 7, 2) := by decide +kernel
theorem dX8_flood_101 : decode cX8_flood 101 = .ok (.iinc 8 1, 3) := by decide +kernel
theorem dX8_flood_104 : decode cX8_flood 104 = .ok (.goto (-55), 3) := by decide +kernel
theorem dX8_flood_107 : decode cX8_flood 107 = .ok (.iload 7, 2) := by decide +kernel
theorem dX8_flood_109 : decode cX8_flood 109 = .ok (.ireturn, 1) := by decide +kernel
theorem dX8_copy_0 : decode cX8_copy 0 = .ok (.iload 4, 2) := by decide +kernel
theorem dX8_copy_2 : decode cX8_copy 2 = .ok (.iconst 0, 1) := by decide +kernel
theorem dX8_copy_3 : decode cX8_copy 3 = .ok (.bipush 64, 2) := by decide +kernel
theorem dX8_copy_5 : decode cX8_copy 5 = .ok (.invokestatic 79, 3) := by decide +kernel
theorem dX8_copy_8 : decode cX8_copy 8 = .ok (.ifCond .eq 14, 3) := by decide +kernel
theorem dX8_copy_11 : decode cX8_copy 11 = .ok (.iload 5, 2) := by decide +kernel
theorem dX8_copy_13 : decode cX8_copy 13 = .ok (.iconst 0, 1) := by decide +kernel
theorem dX8_copy_14 : decode cX8_copy 14 = .ok (.bipush 64, 2) := by decide +kernel
theorem dX8_copy_16 : decode cX8_copy 16 = .ok (.invokestatic 79, 3) := by decide +kernel
theorem dX8_copy_19 : decode cX8_copy 19 = .ok (.ifCond .ne 5, 3) := by decide +kernel
theorem dX8_copy_22 : decode cX8_copy 22 = .ok (.iconst (-1), 1) := by decide +kernel
theorem dX8_copy_23 : decode cX8_copy 23 = .ok (.ireturn, 1) := by decide +kernel
theorem dX8_copy_24 : decode cX8_copy 24 = .ok (.aload_n 0, 1) := by decide +kernel
theorem dX8_copy_25 : decode cX8_copy 25 = .ok (.iload_n 1, 1) := by decide +kernel
theorem dX8_copy_26 : decode cX8_copy 26 = .ok (.new 191, 3) := by decide +kernel
theorem dX8_copy_29 : decode cX8_copy 29 = .ok (.dup, 1) := by decide +kernel
theorem dX8_copy_30 : decode cX8_copy 30 = .ok (.iload_n 2, 1) := by decide +kernel
theorem dX8_copy_31 : decode cX8_copy 31 = .ok (.iload_n 3, 1) := by decide +kernel
theorem dX8_copy_32 : decode cX8_copy 32 = .ok (.iload 4, 2) := by decide +kernel
theorem dX8_copy_34 : decode cX8_copy 34 = .ok (.iload 5, 2) := by decide +kernel
theorem dX8_copy_36 : decode cX8_copy 36 = .ok (.invokespecial 193, 3) := by decide +kernel
theorem dX8_copy_39 : decode cX8_copy 39 = .ok (.iload 6, 2) := by decide +kernel
theorem dX8_copy_41 : decode cX8_copy 41 = .ok (.new 191, 3) := by decide +kernel
theorem dX8_copy_44 : decode cX8_copy 44 = .ok (.dup, 1) := by decide +kernel
theorem dX8_copy_45 : decode cX8_copy 45 = .ok (.iload 7, 2) := by decide +kernel
theorem dX8_copy_47 : decode cX8_copy 47 = .ok (.iload 8, 2) := by decide +kernel
theorem dX8_copy_49 : decode cX8_copy 49 = .ok (.iload 4, 2) := by decide +kernel
theorem dX8_copy_51 : decode cX8_copy 51 = .ok (.iload 5, 2) := by decide +kernel
theorem dX8_copy_53 : decode cX8_copy 53 = .ok (.invokespecial 193, 3) := by decide +kernel
theorem dX8_copy_56 : decode cX8_copy 56 = .ok (.invokevirtual 195, 3) := by decide +kernel
theorem dX8_copy_59 : decode cX8_copy 59 = .ok (.ireturn, 1) := by decide +kernel
theorem dX8_stretch_0 : decode cX8_stretch 0 = .ok (.iload 4, 2) := by decide +kernel
theorem dX8_stretch_2 : decode cX8_stretch 2 = .ok (.invokestatic 63, 3) := by decide +kernel
theorem dX8_stretch_5 : decode cX8_stretch 5 = .ok (.ifCond .eq 27, 3) := by decide +kernel
theorem dX8_stretch_8 : decode cX8_stretch 8 = .ok (.iload 5, 2) := by decide +kernel
theorem dX8_stretch_10 : decode cX8_stretch 10 = .ok (.invokestatic 63, 3) := by decide +kernel
theorem dX8_stretch_13 : decode cX8_stretch 13 = .ok (.ifCond .eq 19, 3) := by decide +kernel
theorem dX8_stretch_16 : decode cX8_stretch 16 = .ok (.iload 9, 2) := by decide +kernel
theorem dX8_stretch_18 : decode cX8_stretch 18 = .ok (.invokestatic 63, 3) := by decide +kernel
theorem dX8_stretch_21 : decode cX8_stretch 21 = .ok (.ifCond .eq 11, 3) := by decide +kernel
theorem dX8_stretch_24 : decode cX8_stretch 24 = .ok (.iload 10, 2) := by decide +kernel
theorem dX8_stretch_26 : decode cX8_stretch 26 = .ok (.invokestatic 63, 3) := by decide +kernel
theorem dX8_stretch_29 : decode cX8_stretch 29 = .ok (.ifCond .ne 5, 3) := by decide +kernel
theorem dX8_stretch_32 : decode cX8_stretch 32 = .ok (.iconst (-1), 1) := by decide +kernel
theorem dX8_stretch_33 : decode cX8_stretch 33 = .ok (.ireturn, 1) := by decide +kernel
theorem dX8_stretch_34 : decode cX8_stretch 34 = .ok (.aload_n 0, 1) := by decide +kernel
theorem dX8_stretch_35 : decode cX8_stretch 35 = .ok (.iload_n 1, 1) := by decide +kernel
theorem dX8_stretch_36 : decode cX8_stretch 36 = .ok (.new 191, 3) := by decide +kernel
theorem dX8_stretch_39 : decode cX8_stretch 39 = .ok (.dup, 1) := by decide +kernel
theorem dX8_stretch_40 : decode cX8_stretch 40 = .ok (.iload_n 2, 1) := by decide +kernel
theorem dX8_stretch_41 : decode cX8_stretch 41 = .ok (.iload_n 3, 1) := by decide +kernel
theorem dX8_stretch_42 : decode cX8_stretch 42 = .ok (.iload 4, 2) := by decide +kernel
theorem dX8_stretch_44 : decode cX8_stretch 44 = .ok (.iload 5, 2) := by decide +kernel
theorem dX8_stretch_46 : decode cX8_stretch 46 = .ok (.invokespecial 193, 3) := by decide +kernel
theorem dX8_stretch_49 : decode cX8_stretch 49 = .ok (.iload 6, 2) := by decide +kernel
theorem dX8_stretch_51 : decode cX8_stretch 51 = .ok (.new 191, 3) := by decide +kernel
theorem dX8_stretch_54 : decode cX8_stretch 54 = .ok (.dup, 1) := by decide +kernel
theorem dX8_stretch_55 : decode cX8_stretch 55 = .ok (.iload 7, 2) := by decide +kernel
theorem dX8_stretch_57 : decode cX8_stretch 57 = .ok (.iload 8, 2) := by decide +kernel
theorem dX8_stretch_59 : decode cX8_stretch 59 = .ok (.iload 9, 2) := by decide +kernel
theorem dX8_stretch_61 : decode cX8_stretch 61 = .ok (.iload 10, 2) := by decide +kernel
theorem dX8_stretch_63 : decode cX8_stretch 63 = .ok (.invokespecial 193, 3) := by decide +kernel
theorem dX8_stretch_66 : decode cX8_stretch 66 = .ok (.invokevirtual 195, 3) := by decide +kernel
theorem dX8_stretch_69 : decode cX8_stretch 69 = .ok (.ireturn, 1) := by decide +kernel
theorem dX8_dot_0 : decode cX8_dot 0 = .ok (.aload_n 0, 1) := by decide +kernel
theorem dX8_dot_1 : decode cX8_dot 1 = .ok (.iload_n 1, 1) := by decide +kernel
theorem dX8_dot_2 : decode cX8_dot 2 = .ok (.invokevirtual 96, 3) := by decide +kernel
theorem dX8_dot_5 : decode cX8_dot 5 = .ok (.astore 4, 2) := by decide +kernel
theorem dX8_dot_7 : decode cX8_dot 7 = .ok (.aload 4, 2) := by decide +kernel
theorem dX8_dot_9 : decode cX8_dot 9 = .ok (.ifnonnull 7, 3) := by decide +kernel
theorem dX8_dot_12 : decode cX8_dot 12 = .ok (.iconst 0, 1) := by decide +kernel
theorem dX8_dot_13 : decode cX8_dot 13 = .ok (.goto 10, 3) := by decide +kernel
theorem dX8_dot_16 : decode cX8_dot 16 = .ok (.aload 4, 2) := by decide +kernel
theorem dX8_dot_18 : decode cX8_dot 18 = .ok (.iload_n 2, 1) := by decide +kernel
theorem dX8_dot_19 : decode cX8_dot 19 = .ok (.iload_n 3, 1) := by decide +kernel
theorem dX8_dot_20 : decode cX8_dot 20 = .ok (.invokevirtual 199, 3) := by decide +kernel
theorem dX8_dot_23 : decode cX8_dot 23 = .ok (.ireturn, 1) := by decide +kernel
theorem dX8_count_0 : decode cX8_count 0 = .ok (.aload_n 0, 1) := by decide +kernel
theorem dX8_count_1 : decode cX8_count 1 = .ok (.iload_n 1, 1) := by decide +kernel
theorem dX8_count_2 : decode cX8_count 2 = .ok (.invokevirtual 96, 3) := by decide +kernel
theorem dX8_count_5 : decode cX8_count 5 = .ok (.astore_n 3, 1) := by decide +kernel
theorem dX8_count_6 : decode cX8_count 6 = .ok (.aload_n 3, 1) := by decide +kernel
theorem dX8_count_7 : decode cX8_count 7 = .ok (.ifnonnull 5, 3) := by decide +kernel
theorem dX8_count_10 : decode cX8_count 10 = .ok (.iconst (-1), 1) := by decide +kernel
theorem dX8_count_11 : decode cX8_count 11 = .ok (.ireturn, 1) := by decide +kernel
theorem dX8_count_12 : decode cX8_count 12 = .ok (.iconst 0, 1) := by decide +kernel
theorem dX8_count_13 : decode cX8_count 13 = .ok (.istore 4, 2) := by decide +kernel
theorem dX8_count_15 : decode cX8_count 15 = .ok (.iconst 0, 1) := by decide +kernel
theorem dX8_count_16 : decode cX8_count 16 = .ok (.istore 5, 2) := by decide +kernel
theorem dX8_count_18 : decode cX8_count 18 = .ok (.iload 5, 2) := by decide +kernel
theorem dX8_count_20 : decode cX8_count 20 = .ok (.aload_n 3, 1) := by decide +kernel
theorem dX8_count_21 : decode cX8_count 21 = .ok (.getfield 145, 3) := by decide +kernel
theorem dX8_count_24 : decode cX8_count 24 = .ok (.if_icmp .ge 42, 3) := by decide +kernel
theorem dX8_count_27 : decode cX8_count 27 = .ok (.iconst 0, 1) := by decide +kernel
theorem dX8_count_28 : decode cX8_count 28 = .ok (.istore 6, 2) := by decide +kernel
theorem dX8_count_30 : decode cX8_count 30 = .ok (.iload 6, 2) := by decide +kernel
theorem dX8_count_32 : decode cX8_count 32 = .ok (.aload_n 3, 1) := by decide +kernel
theorem dX8_count_33 : decode cX8_count 33 = .ok (.getfield 148, 3) := by decide +kernel
theorem dX8_count_36 : decode cX8_count 36 = .ok (.if_icmp .ge 24, 3) := by decide +kernel
theorem dX8_count_39 : decode cX8_count 39 = .ok (.aload_n 3, 1) := by decide +kernel
theorem dX8_count_40 : decode cX8_count 40 = .ok (.iload 6, 2) := by decide +kernel
theorem dX8_count_42 : decode cX8_count 42 = .ok (.iload 5, 2) := by decide +kernel
theorem dX8_count_44 : decode cX8_count 44 = .ok (.invokevirtual 199, 3) := by decide +kernel
theorem dX8_count_47 : decode cX8_count 47 = .ok (.iload_n 2, 1) := by decide +kernel
theorem dX8_count_48 : decode cX8_count 48 = .ok (.if_icmp .ne 6, 3) := by decide +kernel
theorem dX8_count_51 : decode cX8_count 51 = .ok (.iinc 4 1, 3) := by decide +kernel
theorem dX8_count_54 : decode cX8_count 54 = .ok (.iinc 6 1, 3) := by decide +kernel
theorem dX8_count_57 : decode cX8_count 57 = .ok (.goto (-27), 3) := by decide +kernel
theorem dX8_count_60 : decode cX8_count 60 = .ok (.iinc 5 1, 3) := by decide +kernel
theorem dX8_count_63 : decode cX8_count 63 = .ok (.goto (-45), 3) := by decide +kernel
theorem dX8_count_66 : decode cX8_count 66 = .ok (.iload 4, 2) := by decide +kernel
theorem dX8_count_68 : decode cX8_count 68 = .ok (.ireturn, 1) := by decide +kernel
theorem dX8_region_0 : decode cX8_region 0 = .ok (.aload_n 0, 1) := by decide +kernel
theorem dX8_region_1 : decode cX8_region 1 = .ok (.iload_n 1, 1) := by decide +kernel
theorem dX8_region_2 : decode cX8_region 2 = .ok (.invokevirtual 96, 3) := by decide +kernel
theorem dX8_region_5 : decode cX8_region 5 = .ok (.astore 5, 2) := by decide +kernel
theorem dX8_region_7 : decode cX8_region 7 = .ok (.aload 5, 2) := by decide +kernel
theorem dX8_region_9 : decode cX8_region 9 = .ok (.ifnull 13, 3) := by decide +kernel
theorem dX8_region_12 : decode cX8_region 12 = .ok (.aload 5, 2) := by decide +kernel
theorem dX8_region_14 : decode cX8_region 14 = .ok (.iload_n 2, 1) := by decide +kernel
theorem dX8_region_15 : decode cX8_region 15 = .ok (.iload_n 3, 1) := by decide +kernel
theorem dX8_region_16 : decode cX8_region 16 = .ok (.invokevirtual 173, 3) := by decide +kernel
theorem dX8_region_19 : decode cX8_region 19 = .ok (.ifCond .ne 5, 3) := by decide +kernel
theorem dX8_region_22 : decode cX8_region 22 = .ok (.iconst (-1), 1) := by decide +kernel
theorem dX8_region_23 : decode cX8_region 23 = .ok (.ireturn, 1) := by decide +kernel
theorem dX8_region_24 : decode cX8_region 24 = .ok (.aload_n 0, 1) := by decide +kernel
theorem dX8_region_25 : decode cX8_region 25 = .ok (.aload 5, 2) := by decide +kernel
theorem dX8_region_27 : decode cX8_region 27 = .ok (.aload_n 0, 1) := by decide +kernel
theorem dX8_region_28 : decode cX8_region 28 = .ok (.getfield 25, 3) := by decide +kernel
theorem dX8_region_31 : decode cX8_region 31 = .ok (.iload_n 2, 1) := by decide +kernel
theorem dX8_region_32 : decode cX8_region 32 = .ok (.iload_n 3, 1) := by decide +kernel
theorem dX8_region_33 : decode cX8_region 33 = .ok (.iload 4, 2) := by decide +kernel
theorem dX8_region_35 : decode cX8_region 35 = .ok (.invokevirtual 176, 3) := by decide +kernel
theorem dX8_region_38 : decode cX8_region 38 = .ok (.getfield 180, 3) := by decide +kernel
theorem dX8_region_41 : decode cX8_region 41 = .ok (.ireturn, 1) := by decide +kernel
theorem dX8_differ_0 : decode cX8_differ 0 = .ok (.aload_n 0, 1) := by decide +kernel
theorem dX8_differ_1 : decode cX8_differ 1 = .ok (.iload_n 1, 1) := by decide +kernel
theorem dX8_differ_2 : decode cX8_differ 2 = .ok (.invokevirtual 96, 3) := by decide +kernel
theorem dX8_differ_5 : decode cX8_differ 5 = .ok (.astore_n 3, 1) := by decide +kernel
theorem dX8_differ_6 : decode cX8_differ 6 = .ok (.aload_n 0, 1) := by decide +kernel
theorem dX8_differ_7 : decode cX8_differ 7 = .ok (.iload_n 2, 1) := by decide +kernel
theorem dX8_differ_8 : decode cX8_differ 8 = .ok (.invokevirtual 96, 3) := by decide +kernel
theorem dX8_differ_11 : decode cX8_differ 11 = .ok (.astore 4, 2) := by decide +kernel
theorem dX8_differ_13 : decode cX8_differ 13 = .ok (.aload_n 3, 1) := by decide +kernel
theorem dX8_differ_14 : decode cX8_differ 14 = .ok (.ifnull 32, 3) := by decide +kernel
theorem dX8_differ_17 : decode cX8_differ 17 = .ok (.aload 4, 2) := by decide +kernel
theorem dX8_differ_19 : decode cX8_differ 19 = .ok (.ifnull 27, 3) := by decide +kernel
theorem dX8_differ_22 : decode cX8_differ 22 = .ok (.aload_n 3, 1) := by decide +kernel
theorem dX8_differ_23 : decode cX8_differ 23 = .ok (.getfield 148, 3) := by decide +kernel
theorem dX8_differ_26 : decode cX8_differ 26 = .ok (.aload 4, 2) := by decide +kernel
theorem dX8_differ_28 : decode cX8_differ 28 = .ok (.getfield 148, 3) := by decide +kernel
theorem dX8_differ_31 : decode cX8_differ 31 = .ok (.if_icmp .ne 15, 3) := by decide +kernel
theorem dX8_differ_34 : decode cX8_differ 34 = .ok (.aload_n 3, 1) := by decide +kernel
theorem dX8_differ_35 : decode cX8_differ 35 = .ok (.getfield 145, 3) := by decide +kernel
theorem dX8_differ_38 : decode cX8_differ 38 = .ok (.aload 4, 2) := by decide +kernel
theorem dX8_differ_40 : decode cX8_differ 40 = .ok (.getfield 145, 3) := by decide +kernel
theorem dX8_differ_43 : decode cX8_differ 43 = .ok (.if_icmp .eq 5, 3) := by decide +kernel
theorem dX8_differ_46 : decode cX8_differ 46 = .ok (.iconst (-1), 1) := by decide +kernel
theorem dX8_differ_47 : decode cX8_differ 47 = .ok (.ireturn, 1) := by decide +kernel
theorem dX8_differ_48 : decode cX8_differ 48 = .ok (.iconst 0, 1) := by decide +kernel
theorem dX8_differ_49 : decode cX8_differ 49 = .ok (.istore 5, 2) := by decide +kernel
theorem dX8_differ_51 : decode cX8_differ 51 = .ok (.iconst 0, 1) := by decide +kernel
theorem dX8_differ_52 : decode cX8_differ 52 = .ok (.istore 6, 2) := by decide +kernel
theorem dX8_differ_54 : decode cX8_differ 54 = .ok (.iload 6, 2) := by decide +kernel
theorem dX8_differ_56 : decode cX8_differ 56 = .ok (.aload_n 3, 1) := by decide +kernel
theorem dX8_differ_57 : decode cX8_differ 57 = .ok (.getfield 145, 3) := by decide +kernel
theorem dX8_differ_60 : decode cX8_differ 60 = .ok (.if_icmp .ge 50, 3) := by decide +kernel
theorem dX8_differ_63 : decode cX8_differ 63 = .ok (.iconst 0, 1) := by decide +kernel
theorem dX8_differ_64 : decode cX8_differ 64 = .ok (.istore 7, 2) := by decide +kernel
theorem dX8_differ_66 : decode cX8_differ 66 = .ok (.iload 7, 2) := by decide +kernel
theorem dX8_differ_68 : decode cX8_differ 68 = .ok (.aload_n 3, 1) := by decide +kernel
theorem dX8_differ_69 : decode cX8_differ 69 = .ok (.getfield 148, 3) := by decide +kernel
theorem dX8_differ_72 : decode cX8_differ 72 = .ok (.if_icmp .ge 32, 3) := by decide +kernel
theorem dX8_differ_75 : decode cX8_differ 75 = .ok (.aload_n 3, 1) := by decide +kernel
theorem dX8_differ_76 : decode cX8_differ 76 = .ok (.iload 7, 2) := by decide +kernel
theorem dX8_differ_78 : decode cX8_differ 78 = .ok (.iload 6, 2) := by decide +kernel
theorem dX8_differ_80 : decode cX8_differ 80 = .ok (.invokevirtual 199, 3) := by decide +kernel
theorem dX8_differ_83 : decode cX8_differ 83 = .ok (.aload 4, 2) := by decide +kernel
theorem dX8_differ_85 : decode cX8_differ 85 = .ok (.iload 7, 2) := by decide +kernel
theorem dX8_differ_87 : decode cX8_differ 87 = .ok (.iload 6, 2) := by decide +kernel
theorem dX8_differ_89 : decode cX8_differ 89 = .ok (.invokevirtual 199, 3) := by decide +kernel
theorem dX8_differ_92 : decode cX8_differ 92 = .ok (.if_icmp .eq 6, 3) := by decide +kernel
theorem dX8_differ_95 : decode cX8_differ 95 = .ok (.iinc 5 1, 3) := by decide +kernel
theorem dX8_differ_98 : decode cX8_differ 98 = .ok (.iinc 7 1, 3) := by decide +kernel
theorem dX8_differ_101 : decode cX8_differ 101 = .ok (.goto (-35), 3) := by decide +kernel
theorem dX8_differ_104 : decode cX8_differ 104 = .ok (.iinc 6 1, 3) := by decide +kernel
theorem dX8_differ_107 : decode cX8_differ 107 = .ok (.goto (-53), 3) := by decide +kernel
theorem dX8_differ_110 : decode cX8_differ 110 = .ok (.iload 5, 2) := by decide +kernel
theorem dX8_differ_112 : decode cX8_differ 112 = .ok (.ireturn, 1) := by decide +kernel
theorem dX8_look_0 : decode cX8_look 0 = .ok (.aload_n 0, 1) := by decide +kernel
theorem dX8_look_1 : decode cX8_look 1 = .ok (.iload_n 1, 1) := by decide +kernel
theorem dX8_look_2 : decode cX8_look 2 = .ok (.invokevirtual 96, 3) := by decide +kernel
theorem dX8_look_5 : decode cX8_look 5 = .ok (.astore_n 3, 1) := by decide +kernel
theorem dX8_look_6 : decode cX8_look 6 = .ok (.aload_n 3, 1) := by decide +kernel
theorem dX8_look_7 : decode cX8_look 7 = .ok (.ifnonnull 5, 3) := by decide +kernel
theorem dX8_look_10 : decode cX8_look 10 = .ok (.iconst (-1), 1) := by decide +kernel
theorem dX8_look_11 : decode cX8_look 11 = .ok (.ireturn, 1) := by decide +kernel
theorem dX8_look_12 : decode cX8_look 12 = .ok (.iload_n 2, 1) := by decide +kernel
theorem dX8_look_13 : decode cX8_look 13 = .ok (.tableswitch 107 0 9 #[55, 55, 55, 55, 82, 87, 92, 92, 92, 92], 55) := by decide +kernel
theorem dX8_look_68 : decode cX8_look 68 = .ok (.aload_n 3, 1) := by decide +kernel
theorem dX8_look_69 : decode cX8_look 69 = .ok (.iload_n 2, 1) := by decide +kernel
theorem dX8_look_70 : decode cX8_look 70 = .ok (.iconst 2, 1) := by decide +kernel
theorem dX8_look_71 : decode cX8_look 71 = .ok (.if_icmp .ge 7, 3) := by decide +kernel
theorem dX8_look_74 : decode cX8_look 74 = .ok (.iconst 1, 1) := by decide +kernel
theorem dX8_look_75 : decode cX8_look 75 = .ok (.goto 4, 3) := by decide +kernel
theorem dX8_look_78 : decode cX8_look 78 = .ok (.iconst 0, 1) := by decide +kernel
theorem dX8_look_79 : decode cX8_look 79 = .ok (.iload_n 2, 1) := by decide +kernel
theorem dX8_look_80 : decode cX8_look 80 = .ok (.iconst 2, 1) := by decide +kernel
theorem dX8_look_81 : decode cX8_look 81 = .ok (.irem, 1) := by decide +kernel
theorem dX8_look_82 : decode cX8_look 82 = .ok (.iconst 1, 1) := by decide +kernel
theorem dX8_look_83 : decode cX8_look 83 = .ok (.if_icmp .ne 7, 3) := by decide +kernel
theorem dX8_look_86 : decode cX8_look 86 = .ok (.iconst 1, 1) := by decide +kernel
theorem dX8_look_87 : decode cX8_look 87 = .ok (.goto 4, 3) := by decide +kernel
theorem dX8_look_90 : decode cX8_look 90 = .ok (.iconst 0, 1) := by decide +kernel
theorem dX8_look_91 : decode cX8_look 91 = .ok (.invokevirtual 202, 3) := by decide +kernel
theorem dX8_look_94 : decode cX8_look 94 = .ok (.ireturn, 1) := by decide +kernel
theorem dX8_look_95 : decode cX8_look 95 = .ok (.aload_n 3, 1) := by decide +kernel
theorem dX8_look_96 : decode cX8_look 96 = .ok (.getfield 148, 3) := by decide +kernel
theorem dX8_look_99 : decode cX8_look 99 = .ok (.ireturn, 1) := by decide +kernel
theorem dX8_look_100 : decode cX8_look 100 = .ok (.aload_n 3, 1) := by decide +kernel
theorem dX8_look_101 : decode cX8_look 101 = .ok (.getfield 145, 3) := by decide +kernel
theorem dX8_look_104 : decode cX8_look 104 = .ok (.ireturn, 1) := by decide +kernel
theorem dX8_look_105 : decode cX8_look 105 = .ok (.aload_n 3, 1) := by decide +kernel
theorem dX8_look_106 : decode cX8_look 106 = .ok (.bipush 24, 2) := by decide +kernel
theorem dX8_look_108 : decode cX8_look 108 = .ok (.bipush 8, 2) := by decide +kernel
theorem dX8_look_110 : decode cX8_look 110 = .ok (.iload_n 2, 1) := by decide +kernel
theorem dX8_look_111 : decode cX8_look 111 = .ok (.bipush 6, 2) := by decide +kernel
theorem dX8_look_113 : decode cX8_look 113 = .ok (.isub, 1) := by decide +kernel
theorem dX8_look_114 : decode cX8_look 114 = .ok (.imul, 1) := by decide +kernel
theorem dX8_look_115 : decode cX8_look 115 = .ok (.isub, 1) := by decide +kernel
theorem dX8_look_116 : decode cX8_look 116 = .ok (.invokevirtual 206, 3) := by decide +kernel
theorem dX8_look_119 : decode cX8_look 119 = .ok (.ireturn, 1) := by decide +kernel
theorem dX8_look_120 : decode cX8_look 120 = .ok (.iconst (-1), 1) := by decide +kernel
theorem dX8_look_121 : decode cX8_look 121 = .ok (.ireturn, 1) := by decide +kernel
theorem dX8_inside_0 : decode cX8_inside 0 = .ok (.iload_n 3, 1) := by decide +kernel
theorem dX8_inside_1 : decode cX8_inside 1 = .ok (.invokestatic 142, 3) := by decide +kernel
theorem dX8_inside_4 : decode cX8_inside 4 = .ok (.ifCond .ne 5, 3) := by decide +kernel
theorem dX8_inside_7 : decode cX8_inside 7 = .ok (.iconst (-1), 1) := by decide +kernel
theorem dX8_inside_8 : decode cX8_inside 8 = .ok (.ireturn, 1) := by decide +kernel
theorem dX8_inside_9 : decode cX8_inside 9 = .ok (.aload_n 0, 1) := by decide +kernel
theorem dX8_inside_10 : decode cX8_inside 10 = .ok (.getfield 32, 3) := by decide +kernel
theorem dX8_inside_13 : decode cX8_inside 13 = .ok (.iload_n 1, 1) := by decide +kernel
theorem dX8_inside_14 : decode cX8_inside 14 = .ok (.iload_n 2, 1) := by decide +kernel
theorem dX8_inside_15 : decode cX8_inside 15 = .ok (.invokevirtual 209, 3) := by decide +kernel
theorem dX8_inside_18 : decode cX8_inside 18 = .ok (.iload_n 3, 1) := by decide +kernel
theorem dX8_inside_19 : decode cX8_inside 19 = .ok (.invokestatic 212, 3) := by decide +kernel
theorem dX8_inside_22 : decode cX8_inside 22 = .ok (.ifCond .eq 7, 3) := by decide +kernel
theorem dX8_inside_25 : decode cX8_inside 25 = .ok (.iconst 1, 1) := by decide +kernel
theorem dX8_inside_26 : decode cX8_inside 26 = .ok (.goto 4, 3) := by decide +kernel
theorem dX8_inside_29 : decode cX8_inside 29 = .ok (.iconst 0, 1) := by decide +kernel
theorem dX8_inside_30 : decode cX8_inside 30 = .ok (.ireturn, 1) := by decide +kernel
theorem dX8_sheetAt_0 : decode cX8_sheetAt 0 = .ok (.iload_n 1, 1) := by decide +kernel
theorem dX8_sheetAt_1 : decode cX8_sheetAt 1 = .ok (.ifCond .lt 17, 3) := by decide +kernel
theorem dX8_sheetAt_4 : decode cX8_sheetAt 4 = .ok (.iload_n 1, 1) := by decide +kernel
theorem dX8_sheetAt_5 : decode cX8_sheetAt 5 = .ok (.iconst 4, 1) := by decide +kernel
theorem dX8_sheetAt_6 : decode cX8_sheetAt 6 = .ok (.if_icmp .ge 12, 3) := by decide +kernel
theorem dX8_sheetAt_9 : decode cX8_sheetAt 9 = .ok (.aload_n 0, 1) := by decide +kernel
theorem dX8_sheetAt_10 : decode cX8_sheetAt 10 = .ok (.getfield 11, 3) := by decide +kernel
theorem dX8_sheetAt_13 : decode cX8_sheetAt 13 = .ok (.iload_n 1, 1) := by decide +kernel
theorem dX8_sheetAt_14 : decode cX8_sheetAt 14 = .ok (.aaload, 1) := by decide +kernel
theorem dX8_sheetAt_15 : decode cX8_sheetAt 15 = .ok (.goto 4, 3) := by decide +kernel
theorem dX8_sheetAt_18 : decode cX8_sheetAt 18 = .ok (.aconst_null, 1) := by decide +kernel
theorem dX8_sheetAt_19 : decode cX8_sheetAt 19 = .ok (.areturn, 1) := by decide +kernel
theorem dX8_isWithin_0 : decode cX8_isWithin 0 = .ok (.iload_n 0, 1) := by decide +kernel
theorem dX8_isWithin_1 : decode cX8_isWithin 1 = .ok (.iload_n 1, 1) := by decide +kernel
theorem dX8_isWithin_2 : decode cX8_isWithin 2 = .ok (.if_icmp .lt 12, 3) := by decide +kernel
theorem dX8_isWithin_5 : decode cX8_isWithin 5 = .ok (.iload_n 0, 1) := by decide +kernel
theorem dX8_isWithin_6 : decode cX8_isWithin 6 = .ok (.iload_n 2, 1) := by decide +kernel
theorem dX8_isWithin_7 : decode cX8_isWithin 7 = .ok (.if_icmp .gt 7, 3) := by decide +kernel
theorem dX8_isWithin_10 : decode cX8_isWithin 10 = .ok (.iconst 1, 1) := by decide +kernel
theorem dX8_isWithin_11 : decode cX8_isWithin 11 = .ok (.goto 4, 3) := by decide +kernel
theorem dX8_isWithin_14 : decode cX8_isWithin 14 = .ok (.iconst 0, 1) := by decide +kernel
theorem dX8_isWithin_15 : decode cX8_isWithin 15 = .ok (.ireturn, 1) := by decide +kernel
theorem dX8_isNear_0 : decode cX8_isNear 0 = .ok (.iload_n 0, 1) := by decide +kernel
theorem dX8_isNear_1 : decode cX8_isNear 1 = .ok (.iload_n 1, 1) := by decide +kernel
theorem dX8_isNear_2 : decode cX8_isNear 2 = .ok (.ineg, 1) := by decide +kernel
theorem dX8_isNear_3 : decode cX8_isNear 3 = .ok (.iload_n 1, 1) := by decide +kernel
theorem dX8_isNear_4 : decode cX8_isNear 4 = .ok (.invokestatic 79, 3) := by decide +kernel
theorem dX8_isNear_7 : decode cX8_isNear 7 = .ok (.ireturn, 1) := by decide +kernel
theorem dX8_isSide_0 : decode cX8_isSide 0 = .ok (.iload_n 0, 1) := by decide +kernel
theorem dX8_isSide_1 : decode cX8_isSide 1 = .ok (.iconst 1, 1) := by decide +kernel
theorem dX8_isSide_2 : decode cX8_isSide 2 = .ok (.bipush 64, 2) := by decide +kernel
theorem dX8_isSide_4 : decode cX8_isSide 4 = .ok (.invokestatic 79, 3) := by decide +kernel
theorem dX8_isSide_7 : decode cX8_isSide 7 = .ok (.ireturn, 1) := by decide +kernel
theorem dX8_isRule_0 : decode cX8_isRule 0 = .ok (.iload_n 0, 1) := by decide +kernel
theorem dX8_isRule_1 : decode cX8_isRule 1 = .ok (.ifCond .eq 8, 3) := by decide +kernel
theorem dX8_isRule_4 : decode cX8_isRule 4 = .ok (.iload_n 0, 1) := by decide +kernel
theorem dX8_isRule_5 : decode cX8_isRule 5 = .ok (.iconst 1, 1) := by decide +kernel
theorem dX8_isRule_6 : decode cX8_isRule 6 = .ok (.if_icmp .ne 7, 3) := by decide +kernel
theorem dX8_isRule_9 : decode cX8_isRule 9 = .ok (.iconst 1, 1) := by decide +kernel
theorem dX8_isRule_10 : decode cX8_isRule 10 = .ok (.goto 4, 3) := by decide +kernel
theorem dX8_isRule_13 : decode cX8_isRule 13 = .ok (.iconst 0, 1) := by decide +kernel
theorem dX8_isRule_14 : decode cX8_isRule 14 = .ok (.ireturn, 1) := by decide +kernel
theorem dX8_isIn_0 : decode cX8_isIn 0 = .ok (.iload_n 1, 1) := by decide +kernel
theorem dX8_isIn_1 : decode cX8_isIn 1 = .ok (.ifCond .ne 18, 3) := by decide +kernel
theorem dX8_isIn_4 : decode cX8_isIn 4 = .ok (.iload_n 0, 1) := by decide +kernel
theorem dX8_isIn_5 : decode cX8_isIn 5 = .ok (.iconst 1, 1) := by decide +kernel
theorem dX8_isIn_6 : decode cX8_isIn 6 = .ok (.iand, 1) := by decide +kernel
theorem dX8_isIn_7 : decode cX8_isIn 7 = .ok (.iconst 1, 1) := by decide +kernel
theorem dX8_isIn_8 : decode cX8_isIn 8 = .ok (.if_icmp .ne 7, 3) := by decide +kernel
theorem dX8_isIn_11 : decode cX8_isIn 11 = .ok (.iconst 1, 1) := by decide +kernel
theorem dX8_isIn_12 : decode cX8_isIn 12 = .ok (.goto 16, 3) := by decide +kernel
theorem dX8_isIn_15 : decode cX8_isIn 15 = .ok (.iconst 0, 1) := by decide +kernel
theorem dX8_isIn_16 : decode cX8_isIn 16 = .ok (.goto 12, 3) := by decide +kernel
theorem dX8_isIn_19 : decode cX8_isIn 19 = .ok (.iload_n 0, 1) := by decide +kernel
theorem dX8_isIn_20 : decode cX8_isIn 20 = .ok (.ifCond .eq 7, 3) := by decide +kernel
theorem dX8_isIn_23 : decode cX8_isIn 23 = .ok (.iconst 1, 1) := by decide +kernel
theorem dX8_isIn_24 : decode cX8_isIn 24 = .ok (.goto 4, 3) := by decide +kernel
theorem dX8_isIn_27 : decode cX8_isIn 27 = .ok (.iconst 0, 1) := by decide +kernel
theorem dX8_isIn_28 : decode cX8_isIn 28 = .ok (.ireturn, 1) := by decide +kernel
theorem dX8_shareOfFull_0 : decode cX8_shareOfFull 0 = .ok (.iconst 2, 1) := by decide +kernel
theorem dX8_shareOfFull_1 : decode cX8_shareOfFull 1 = .ok (.iload_n 0, 1) := by decide +kernel
theorem dX8_shareOfFull_2 : decode cX8_shareOfFull 2 = .ok (.imul, 1) := by decide +kernel
theorem dX8_shareOfFull_3 : decode cX8_shareOfFull 3 = .ok (.sipush 255, 3) := by decide +kernel
theorem dX8_shareOfFull_6 : decode cX8_shareOfFull 6 = .ok (.iadd, 1) := by decide +kernel
theorem dX8_shareOfFull_7 : decode cX8_shareOfFull 7 = .ok (.sipush 510, 3) := by decide +kernel
theorem dX8_shareOfFull_10 : decode cX8_shareOfFull 10 = .ok (.idiv, 1) := by decide +kernel
theorem dX8_shareOfFull_11 : decode cX8_shareOfFull 11 = .ok (.ireturn, 1) := by decide +kernel
theorem dX8_channel_0 : decode cX8_channel 0 = .ok (.iload_n 0, 1) := by decide +kernel
theorem dX8_channel_1 : decode cX8_channel 1 = .ok (.iload_n 1, 1) := by decide +kernel
theorem dX8_channel_2 : decode cX8_channel 2 = .ok (.iushr, 1) := by decide +kernel
theorem dX8_channel_3 : decode cX8_channel 3 = .ok (.sipush 255, 3) := by decide +kernel
theorem dX8_channel_6 : decode cX8_channel 6 = .ok (.iand, 1) := by decide +kernel
theorem dX8_channel_7 : decode cX8_channel 7 = .ok (.ireturn, 1) := by decide +kernel
theorem dX8_inkOf_0 : decode cX8_inkOf 0 = .ok (.iload_n 0, 1) := by decide +kernel
theorem dX8_inkOf_1 : decode cX8_inkOf 1 = .ok (.bipush 24, 2) := by decide +kernel
theorem dX8_inkOf_3 : decode cX8_inkOf 3 = .ok (.invokestatic 215, 3) := by decide +kernel
theorem dX8_inkOf_6 : decode cX8_inkOf 6 = .ok (.istore_n 1, 1) := by decide +kernel
theorem dX8_inkOf_7 : decode cX8_inkOf 7 = .ok (.iload_n 1, 1) := by decide +kernel
theorem dX8_inkOf_8 : decode cX8_inkOf 8 = .ok (.istore_n 2, 1) := by decide +kernel
theorem dX8_inkOf_9 : decode cX8_inkOf 9 = .ok (.bipush 16, 2) := by decide +kernel
theorem dX8_inkOf_11 : decode cX8_inkOf 11 = .ok (.istore_n 3, 1) := by decide +kernel
theorem dX8_inkOf_12 : decode cX8_inkOf 12 = .ok (.iload_n 3, 1) := by decide +kernel
theorem dX8_inkOf_13 : decode cX8_inkOf 13 = .ok (.ifCond .lt 25, 3) := by decide +kernel
theorem dX8_inkOf_16 : decode cX8_inkOf 16 = .ok (.iload_n 2, 1) := by decide +kernel
theorem dX8_inkOf_17 : decode cX8_inkOf 17 = .ok (.bipush 8, 2) := by decide +kernel
theorem dX8_inkOf_19 : decode cX8_inkOf 19 = .ok (.ishl, 1) := by decide +kernel
theorem dX8_inkOf_20 : decode cX8_inkOf 20 = .ok (.iload_n 0, 1) := by decide +kernel
theorem dX8_inkOf_21 : decode cX8_inkOf 21 = .ok (.iload_n 3, 1) := by decide +kernel
theorem dX8_inkOf_22 : decode cX8_inkOf 22 = .ok (.invokestatic 215, 3) := by decide +kernel
theorem dX8_inkOf_25 : decode cX8_inkOf 25 = .ok (.iload_n 1, 1) := by decide +kernel
theorem dX8_inkOf_26 : decode cX8_inkOf 26 = .ok (.imul, 1) := by decide +kernel
theorem dX8_inkOf_27 : decode cX8_inkOf 27 = .ok (.invokestatic 218, 3) := by decide +kernel
theorem dX8_inkOf_30 : decode cX8_inkOf 30 = .ok (.ior, 1) := by decide +kernel
theorem dX8_inkOf_31 : decode cX8_inkOf 31 = .ok (.istore_n 2, 1) := by decide +kernel
theorem dX8_inkOf_32 : decode cX8_inkOf 32 = .ok (.iinc 3 (-8), 3) := by decide +kernel
theorem dX8_inkOf_35 : decode cX8_inkOf 35 = .ok (.goto (-23), 3) := by decide +kernel
theorem dX8_inkOf_38 : decode cX8_inkOf 38 = .ok (.iload_n 2, 1) := by decide +kernel
theorem dX8_inkOf_39 : decode cX8_inkOf 39 = .ok (.ireturn, 1) := by decide +kernel
theorem dX8_wayAlong_0 : decode cX8_wayAlong 0 = .ok (.iload_n 1, 1) := by decide +kernel
theorem dX8_wayAlong_1 : decode cX8_wayAlong 1 = .ok (.ifCond .gt 7, 3) := by decide +kernel
theorem dX8_wayAlong_4 : decode cX8_wayAlong 4 = .ok (.iconst 0, 1) := by decide +kernel
theorem dX8_wayAlong_5 : decode cX8_wayAlong 5 = .ok (.goto 16, 3) := by decide +kernel
theorem dX8_wayAlong_8 : decode cX8_wayAlong 8 = .ok (.iconst 2, 1) := by decide +kernel
theorem dX8_wayAlong_9 : decode cX8_wayAlong 9 = .ok (.iload_n 0, 1) := by decide +kernel
theorem dX8_wayAlong_10 : decode cX8_wayAlong 10 = .ok (.imul, 1) := by decide +kernel
theorem dX8_wayAlong_11 : decode cX8_wayAlong 11 = .ok (.iload_n 2, 1) := by decide +kernel
theorem dX8_wayAlong_12 : decode cX8_wayAlong 12 = .ok (.imul, 1) := by decide +kernel
theorem dX8_wayAlong_13 : decode cX8_wayAlong 13 = .ok (.iload_n 1, 1) := by decide +kernel
theorem dX8_wayAlong_14 : decode cX8_wayAlong 14 = .ok (.iadd, 1) := by decide +kernel
theorem dX8_wayAlong_15 : decode cX8_wayAlong 15 = .ok (.iconst 1, 1) := by decide +kernel
theorem dX8_wayAlong_16 : decode cX8_wayAlong 16 = .ok (.isub, 1) := by decide +kernel
theorem dX8_wayAlong_17 : decode cX8_wayAlong 17 = .ok (.iconst 2, 1) := by decide +kernel
theorem dX8_wayAlong_18 : decode cX8_wayAlong 18 = .ok (.iload_n 1, 1) := by decide +kernel
theorem dX8_wayAlong_19 : decode cX8_wayAlong 19 = .ok (.imul, 1) := by decide +kernel
theorem dX8_wayAlong_20 : decode cX8_wayAlong 20 = .ok (.idiv, 1) := by decide +kernel
theorem dX8_wayAlong_21 : decode cX8_wayAlong 21 = .ok (.ireturn, 1) := by decide +kernel
theorem dX8_nearestRoot_0 : decode cX8_nearestRoot 0 = .ok (.iload_n 1, 1) := by decide +kernel
theorem dX8_nearestRoot_1 : decode cX8_nearestRoot 1 = .ok (.istore_n 2, 1) := by decide +kernel
theorem dX8_nearestRoot_2 : decode cX8_nearestRoot 2 = .ok (.iload_n 2, 1) := by decide +kernel
theorem dX8_nearestRoot_3 : decode cX8_nearestRoot 3 = .ok (.ifCond .le 18, 3) := by decide +kernel
theorem dX8_nearestRoot_6 : decode cX8_nearestRoot 6 = .ok (.iload_n 2, 1) := by decide +kernel
theorem dX8_nearestRoot_7 : decode cX8_nearestRoot 7 = .ok (.iload_n 2, 1) := by decide +kernel
theorem dX8_nearestRoot_8 : decode cX8_nearestRoot 8 = .ok (.imul, 1) := by decide +kernel
theorem dX8_nearestRoot_9 : decode cX8_nearestRoot 9 = .ok (.iload_n 2, 1) := by decide +kernel
theorem dX8_nearestRoot_10 : decode cX8_nearestRoot 10 = .ok (.isub, 1) := by decide +kernel
theorem dX8_nearestRoot_11 : decode cX8_nearestRoot 11 = .ok (.iload_n 0, 1) := by decide +kernel
theorem dX8_nearestRoot_12 : decode cX8_nearestRoot 12 = .ok (.if_icmp .lt 9, 3) := by decide +kernel
theorem dX8_nearestRoot_15 : decode cX8_nearestRoot 15 = .ok (.iinc 2 (-1), 3) := by decide +kernel
theorem dX8_nearestRoot_18 : decode cX8_nearestRoot 18 = .ok (.goto (-16), 3) := by decide +kernel
theorem dX8_nearestRoot_21 : decode cX8_nearestRoot 21 = .ok (.iload_n 2, 1) := by decide +kernel
theorem dX8_nearestRoot_22 : decode cX8_nearestRoot 22 = .ok (.ireturn, 1) := by decide +kernel
theorem dX8_layMirrored_0 : decode cX8_layMirrored 0 = .ok (.aload_n 0, 1) := by decide +kernel
theorem dX8_layMirrored_1 : decode cX8_layMirrored 1 = .ok (.aload_n 1, 1) := by decide +kernel
theorem dX8_layMirrored_2 : decode cX8_layMirrored 2 = .ok (.iload_n 2, 1) := by decide +kernel
theorem dX8_layMirrored_3 : decode cX8_layMirrored 3 = .ok (.iload 4, 2) := by decide +kernel
theorem dX8_layMirrored_5 : decode cX8_layMirrored 5 = .ok (.iload_n 3, 1) := by decide +kernel
theorem dX8_layMirrored_6 : decode cX8_layMirrored 6 = .ok (.iload 5, 2) := by decide +kernel
theorem dX8_layMirrored_8 : decode cX8_layMirrored 8 = .ok (.iadd, 1) := by decide +kernel
theorem dX8_layMirrored_9 : decode cX8_layMirrored 9 = .ok (.invokevirtual 221, 3) := by decide +kernel
theorem dX8_layMirrored_12 : decode cX8_layMirrored 12 = .ok (.istore 6, 2) := by decide +kernel
theorem dX8_layMirrored_14 : decode cX8_layMirrored 14 = .ok (.iload 5, 2) := by decide +kernel
theorem dX8_layMirrored_16 : decode cX8_layMirrored 16 = .ok (.ifCond .eq 20, 3) := by decide +kernel
theorem dX8_layMirrored_19 : decode cX8_layMirrored 19 = .ok (.iload 6, 2) := by decide +kernel
theorem dX8_layMirrored_21 : decode cX8_layMirrored 21 = .ok (.aload_n 0, 1) := by decide +kernel
theorem dX8_layMirrored_22 : decode cX8_layMirrored 22 = .ok (.aload_n 1, 1) := by decide +kernel
theorem dX8_layMirrored_23 : decode cX8_layMirrored 23 = .ok (.iload_n 2, 1) := by decide +kernel
theorem dX8_layMirrored_24 : decode cX8_layMirrored 24 = .ok (.iload 4, 2) := by decide +kernel
theorem dX8_layMirrored_26 : decode cX8_layMirrored 26 = .ok (.iload_n 3, 1) := by decide +kernel
theorem dX8_layMirrored_27 : decode cX8_layMirrored 27 = .ok (.iload 5, 2) := by decide +kernel
theorem dX8_layMirrored_29 : decode cX8_layMirrored 29 = .ok (.isub, 1) := by decide +kernel
theorem dX8_layMirrored_30 : decode cX8_layMirrored 30 = .ok (.invokevirtual 221, 3) := by decide +kernel
theorem dX8_layMirrored_33 : decode cX8_layMirrored 33 = .ok (.iadd, 1) := by decide +kernel
theorem dX8_layMirrored_34 : decode cX8_layMirrored 34 = .ok (.istore 6, 2) := by decide +kernel
theorem dX8_layMirrored_36 : decode cX8_layMirrored 36 = .ok (.iload 6, 2) := by decide +kernel
theorem dX8_layMirrored_38 : decode cX8_layMirrored 38 = .ok (.ireturn, 1) := by decide +kernel
theorem dX8_layPair_0 : decode cX8_layPair 0 = .ok (.aload_n 0, 1) := by decide +kernel
theorem dX8_layPair_1 : decode cX8_layPair 1 = .ok (.getfield 18, 3) := by decide +kernel
theorem dX8_layPair_4 : decode cX8_layPair 4 = .ok (.aload_n 1, 1) := by decide +kernel
theorem dX8_layPair_5 : decode cX8_layPair 5 = .ok (.iload_n 2, 1) := by decide +kernel
theorem dX8_layPair_6 : decode cX8_layPair 6 = .ok (.iload_n 3, 1) := by decide +kernel
theorem dX8_layPair_7 : decode cX8_layPair 7 = .ok (.iadd, 1) := by decide +kernel
theorem dX8_layPair_8 : decode cX8_layPair 8 = .ok (.iload 4, 2) := by decide +kernel
theorem dX8_layPair_10 : decode cX8_layPair 10 = .ok (.aload_n 0, 1) := by decide +kernel
theorem dX8_layPair_11 : decode cX8_layPair 11 = .ok (.getfield 18, 3) := by decide +kernel
theorem dX8_layPair_14 : decode cX8_layPair 14 = .ok (.getfield 76, 3) := by decide +kernel
theorem dX8_layPair_17 : decode cX8_layPair 17 = .ok (.aload_n 0, 1) := by decide +kernel
theorem dX8_layPair_18 : decode cX8_layPair 18 = .ok (.getfield 18, 3) := by decide +kernel
theorem dX8_layPair_21 : decode cX8_layPair 21 = .ok (.getfield 86, 3) := by decide +kernel
theorem dX8_layPair_24 : decode cX8_layPair 24 = .ok (.invokevirtual 122, 3) := by decide +kernel
theorem dX8_layPair_27 : decode cX8_layPair 27 = .ok (.istore 5, 2) := by decide +kernel
theorem dX8_layPair_29 : decode cX8_layPair 29 = .ok (.iload_n 3, 1) := by decide +kernel
theorem dX8_layPair_30 : decode cX8_layPair 30 = .ok (.ifCond .eq 35, 3) := by decide +kernel
theorem dX8_layPair_33 : decode cX8_layPair 33 = .ok (.iload 5, 2) := by decide +kernel
theorem dX8_layPair_35 : decode cX8_layPair 35 = .ok (.aload_n 0, 1) := by decide +kernel
theorem dX8_layPair_36 : decode cX8_layPair 36 = .ok (.getfield 18, 3) := by decide +kernel
theorem dX8_layPair_39 : decode cX8_layPair 39 = .ok (.aload_n 1, 1) := by decide +kernel
theorem dX8_layPair_40 : decode cX8_layPair 40 = .ok (.iload_n 2, 1) := by decide +kernel
theorem dX8_layPair_41 : decode cX8_layPair 41 = .ok (.iload_n 3, 1) := by decide +kernel
theorem dX8_layPair_42 : decode cX8_layPair 42 = .ok (.isub, 1) := by decide +kernel
theorem dX8_layPair_43 : decode cX8_layPair 43 = .ok (.iload 4, 2) := by decide +kernel
theorem dX8_layPair_45 : decode cX8_layPair 45 = .ok (.aload_n 0, 1) := by decide +kernel
theorem dX8_layPair_46 : decode cX8_layPair 46 = .ok (.getfield 18, 3) := by decide +kernel
theorem dX8_layPair_49 : decode cX8_layPair 49 = .ok (.getfield 76, 3) := by decide +kernel
theorem dX8_layPair_52 : decode cX8_layPair 52 = .ok (.aload_n 0, 1) := by decide +kernel
theorem dX8_layPair_53 : decode cX8_layPair 53 = .ok (.getfield 18, 3) := by decide +kernel
theorem dX8_layPair_56 : decode cX8_layPair 56 = .ok (.getfield 86, 3) := by decide +kernel
theorem dX8_layPair_59 : decode cX8_layPair 59 = .ok (.invokevirtual 122, 3) := by decide +kernel
theorem dX8_layPair_62 : decode cX8_layPair 62 = .ok (.iadd, 1) := by decide +kernel
theorem dX8_layPair_63 : decode cX8_layPair 63 = .ok (.istore 5, 2) := by decide +kernel
theorem dX8_layPair_65 : decode cX8_layPair 65 = .ok (.iload 5, 2) := by decide +kernel
theorem dX8_layPair_67 : decode cX8_layPair 67 = .ok (.ireturn, 1) := by decide +kernel
theorem dX8_gathered_0 : decode cX8_gathered 0 = .ok (.aload_n 0, 1) := by decide +kernel
theorem dX8_gathered_1 : decode cX8_gathered 1 = .ok (.getfield 55, 3) := by decide +kernel
theorem dX8_gathered_4 : decode cX8_gathered 4 = .ok (.ifnonnull 14, 3) := by decide +kernel
theorem dX8_gathered_7 : decode cX8_gathered 7 = .ok (.aload_n 0, 1) := by decide +kernel
theorem dX8_gathered_8 : decode cX8_gathered 8 = .ok (.new 181, 3) := by decide +kernel
theorem dX8_gathered_11 : decode cX8_gathered 11 = .ok (.dup, 1) := by decide +kernel
theorem dX8_gathered_12 : decode cX8_gathered 12 = .ok (.invokespecial 225, 3) := by decide +kernel
theorem dX8_gathered_15 : decode cX8_gathered 15 = .ok (.putfield 55, 3) := by decide +kernel
theorem dX8_gathered_18 : decode cX8_gathered 18 = .ok (.aload_n 0, 1) := by decide +kernel
theorem dX8_gathered_19 : decode cX8_gathered 19 = .ok (.getfield 55, 3) := by decide +kernel
theorem dX8_gathered_22 : decode cX8_gathered 22 = .ok (.aload_n 1, 1) := by decide +kernel
theorem dX8_gathered_23 : decode cX8_gathered 23 = .ok (.aload_n 2, 1) := by decide +kernel
theorem dX8_gathered_24 : decode cX8_gathered 24 = .ok (.iload_n 3, 1) := by decide +kernel
theorem dX8_gathered_25 : decode cX8_gathered 25 = .ok (.iload 4, 2) := by decide +kernel
theorem dX8_gathered_27 : decode cX8_gathered 27 = .ok (.iload 5, 2) := by decide +kernel
theorem dX8_gathered_29 : decode cX8_gathered 29 = .ok (.invokevirtual 226, 3) := by decide +kernel
theorem dX8_gathered_32 : decode cX8_gathered 32 = .ok (.aload_n 0, 1) := by decide +kernel
theorem dX8_gathered_33 : decode cX8_gathered 33 = .ok (.getfield 55, 3) := by decide +kernel
theorem dX8_gathered_36 : decode cX8_gathered 36 = .ok (.areturn, 1) := by decide +kernel
theorem dX8_carry_0 : decode cX8_carry 0 = .ok (.aload_n 0, 1) := by decide +kernel
theorem dX8_carry_1 : decode cX8_carry 1 = .ok (.iload_n 1, 1) := by decide +kernel
theorem dX8_carry_2 : decode cX8_carry 2 = .ok (.invokevirtual 96, 3) := by decide +kernel
theorem dX8_carry_5 : decode cX8_carry 5 = .ok (.astore 5, 2) := by decide +kernel
theorem dX8_carry_7 : decode cX8_carry 7 = .ok (.aload_n 0, 1) := by decide +kernel
theorem dX8_carry_8 : decode cX8_carry 8 = .ok (.iload_n 3, 1) := by decide +kernel
theorem dX8_carry_9 : decode cX8_carry 9 = .ok (.invokevirtual 96, 3) := by decide +kernel
theorem dX8_carry_12 : decode cX8_carry 12 = .ok (.astore 6, 2) := by decide +kernel
theorem dX8_carry_14 : decode cX8_carry 14 = .ok (.aload 5, 2) := by decide +kernel
theorem dX8_carry_16 : decode cX8_carry 16 = .ok (.ifnull 23, 3) := by decide +kernel
theorem dX8_carry_19 : decode cX8_carry 19 = .ok (.aload 6, 2) := by decide +kernel
theorem dX8_carry_21 : decode cX8_carry 21 = .ok (.ifnull 18, 3) := by decide +kernel
theorem dX8_carry_24 : decode cX8_carry 24 = .ok (.aload_n 2, 1) := by decide +kernel
theorem dX8_carry_25 : decode cX8_carry 25 = .ok (.invokevirtual 230, 3) := by decide +kernel
theorem dX8_carry_28 : decode cX8_carry 28 = .ok (.ifCond .eq 11, 3) := by decide +kernel
theorem dX8_carry_31 : decode cX8_carry 31 = .ok (.aload 4, 2) := by decide +kernel
theorem dX8_carry_33 : decode cX8_carry 33 = .ok (.invokevirtual 230, 3) := by decide +kernel
theorem dX8_carry_36 : decode cX8_carry 36 = .ok (.ifCond .ne 5, 3) := by decide +kernel
theorem dX8_carry_39 : decode cX8_carry 39 = .ok (.iconst (-1), 1) := by decide +kernel
theorem dX8_carry_40 : decode cX8_carry 40 = .ok (.ireturn, 1) := by decide +kernel
theorem dX8_carry_41 : decode cX8_carry 41 = .ok (.iload_n 1, 1) := by decide +kernel
theorem dX8_carry_42 : decode cX8_carry 42 = .ok (.iload_n 3, 1) := by decide +kernel
theorem dX8_carry_43 : decode cX8_carry 43 = .ok (.if_icmp .ne 11, 3) := by decide +kernel
theorem dX8_carry_46 : decode cX8_carry 46 = .ok (.aload_n 0, 1) := by decide +kernel
theorem dX8_carry_47 : decode cX8_carry 47 = .ok (.aload 5, 2) := by decide +kernel
theorem dX8_carry_49 : decode cX8_carry 49 = .ok (.invokevirtual 234, 3) := by decide +kernel
theorem dX8_carry_52 : decode cX8_carry 52 = .ok (.astore 5, 2) := by decide +kernel
theorem dX8_carry_54 : decode cX8_carry 54 = .ok (.iconst 0, 1) := by decide +kernel
theorem dX8_carry_55 : decode cX8_carry 55 = .ok (.istore 7, 2) := by decide +kernel
theorem dX8_carry_57 : decode cX8_carry 57 = .ok (.iconst 0, 1) := by decide +kernel
theorem dX8_carry_58 : decode cX8_carry 58 = .ok (.istore 8, 2) := by decide +kernel
theorem dX8_carry_60 : decode cX8_carry 60 = .ok (.iload 8, 2) := by decide +kernel
theorem dX8_carry_62 : decode cX8_carry 62 = .ok (.aload 4, 2) := by decide +kernel
theorem dX8_carry_64 : decode cX8_carry 64 = .ok (.getfield 238, 3) := by decide +kernel
theorem dX8_carry_67 : decode cX8_carry 67 = .ok (.if_icmp .ge 126, 3) := by decide +kernel
theorem dX8_carry_70 : decode cX8_carry 70 = .ok (.aload_n 2, 1) := by decide +kernel
theorem dX8_carry_71 : decode cX8_carry 71 = .ok (.getfield 241, 3) := by decide +kernel
theorem dX8_carry_74 : decode cX8_carry 74 = .ok (.iload 8, 2) := by decide +kernel
theorem dX8_carry_76 : decode cX8_carry 76 = .ok (.aload_n 2, 1) := by decide +kernel
theorem dX8_carry_77 : decode cX8_carry 77 = .ok (.getfield 238, 3) := by decide +kernel
theorem dX8_carry_80 : decode cX8_carry 80 = .ok (.imul, 1) := by decide +kernel
theorem dX8_carry_81 : decode cX8_carry 81 = .ok (.aload 4, 2) := by decide +kernel
theorem dX8_carry_83 : decode cX8_carry 83 = .ok (.getfield 238, 3) := by decide +kernel
theorem dX8_carry_86 : decode cX8_carry 86 = .ok (.idiv, 1) := by decide +kernel
theorem dX8_carry_87 : decode cX8_carry 87 = .ok (.iadd, 1) := by decide +kernel
theorem dX8_carry_88 : decode cX8_carry 88 = .ok (.istore 9, 2) := by decide +kernel
theorem dX8_carry_90 : decode cX8_carry 90 = .ok (.iconst 0, 1) := by decide +kernel
theorem dX8_carry_91 : decode cX8_carry 91 = .ok (.istore 10, 2) := by decide +kernel
theorem dX8_carry_93 : decode cX8_carry 93 = .ok (.iload 10, 2) := by decide +kernel
theorem dX8_carry_95 : decode cX8_carry 95 = .ok (.aload 4, 2) := by decide +kernel
theorem dX8_carry_97 : decode cX8_carry 97 = .ok (.getfield 244, 3) := by decide +kernel
theorem dX8_carry_100 : decode cX8_carry 100 = .ok (.if_icmp .ge 87, 3) := by decide +kernel
theorem dX8_carry_103 : decode cX8_carry 103 = .ok (.aload_n 2, 1) := by decide +kernel
theorem dX8_carry_104 : decode cX8_carry 104 = .ok (.getfield 247, 3) := by decide +kernel
theorem dX8_carry_107 : decode cX8_carry 107 = .ok (.iload 10, 2) := by decide +kernel
theorem dX8_carry_109 : decode cX8_carry 109 = .ok (.aload_n 2, 1) := by decide +kernel
theorem dX8_carry_110 : decode cX8_carry 110 = .ok (.getfield 244, 3) := by decide +kernel
theorem dX8_carry_113 : decode cX8_carry 113 = .ok (.imul, 1) := by decide +kernel
theorem dX8_carry_114 : decode cX8_carry 114 = .ok (.aload 4, 2) := by decide +kernel
theorem dX8_carry_116 : decode cX8_carry 116 = .ok (.getfield 244, 3) := by decide +kernel
theorem dX8_carry_119 : decode cX8_carry 119 = .ok (.idiv, 1) := by decide +kernel
theorem dX8_carry_120 : decode cX8_carry 120 = .ok (.iadd, 1) := by decide +kernel
theorem dX8_carry_121 : decode cX8_carry 121 = .ok (.istore 11, 2) := by decide +kernel
theorem dX8_carry_123 : decode cX8_carry 123 = .ok (.aload 5, 2) := by decide +kernel
theorem dX8_carry_125 : decode cX8_carry 125 = .ok (.iload 11, 2) := by decide +kernel
theorem dX8_carry_127 : decode cX8_carry 127 = .ok (.iload 9, 2) := by decide +kernel
theorem dX8_carry_129 : decode cX8_carry 129 = .ok (.invokevirtual 173, 3) := by decide +kernel
theorem dX8_carry_132 : decode cX8_carry 132 = .ok (.ifCond .eq 49, 3) := by decide +kernel
theorem dX8_carry_135 : decode cX8_carry 135 = .ok (.iload 7, 2) := by decide +kernel
theorem dX8_carry_137 : decode cX8_carry 137 = .ok (.aload_n 0, 1) := by decide +kernel
theorem dX8_carry_138 : decode cX8_carry 138 = .ok (.getfield 18, 3) := by decide +kernel
theorem dX8_carry_141 : decode cX8_carry 141 = .ok (.aload 6, 2) := by decide +kernel
theorem dX8_carry_143 : decode cX8_carry 143 = .ok (.aload 4, 2) := by decide +kernel
theorem dX8_carry_145 : decode cX8_carry 145 = .ok (.getfield 247, 3) := by decide +kernel
theorem dX8_carry_148 : decode cX8_carry 148 = .ok (.iload 10, 2) := by decide +kernel
theorem dX8_carry_150 : decode cX8_carry 150 = .ok (.iadd, 1) := by decide +kernel
theorem dX8_carry_151 : decode cX8_carry 151 = .ok (.aload 4, 2) := by decide +kernel
theorem dX8_carry_153 : decode cX8_carry 153 = .ok (.getfield 241, 3) := by decide +kernel
theorem dX8_carry_156 : decode cX8_carry 156 = .ok (.iload 8, 2) := by decide +kernel
theorem dX8_carry_158 : decode cX8_carry 158 = .ok (.iadd, 1) := by decide +kernel
theorem dX8_carry_159 : decode cX8_carry 159 = .ok (.aload 5, 2) := by decide +kernel
theorem dX8_carry_161 : decode cX8_carry 161 = .ok (.iload 11, 2) := by decide +kernel
theorem dX8_carry_163 : decode cX8_carry 163 = .ok (.iload 9, 2) := by decide +kernel
theorem dX8_carry_165 : decode cX8_carry 165 = .ok (.invokevirtual 199, 3) := by decide +kernel
theorem dX8_carry_168 : decode cX8_carry 168 = .ok (.aload_n 0, 1) := by decide +kernel
theorem dX8_carry_169 : decode cX8_carry 169 = .ok (.getfield 18, 3) := by decide +kernel
theorem dX8_carry_172 : decode cX8_carry 172 = .ok (.getfield 86, 3) := by decide +kernel
theorem dX8_carry_175 : decode cX8_carry 175 = .ok (.invokevirtual 122, 3) := by decide +kernel
theorem dX8_carry_178 : decode cX8_carry 178 = .ok (.iadd, 1) := by decide +kernel
theorem dX8_carry_179 : decode cX8_carry 179 = .ok (.istore 7, 2) := by decide +kernel
theorem dX8_carry_181 : decode cX8_carry 181 = .ok (.iinc 10 1, 3) := by decide +kernel
theorem dX8_carry_184 : decode cX8_carry 184 = .ok (.goto (-91), 3) := by decide +kernel
theorem dX8_carry_187 : decode cX8_carry 187 = .ok (.iinc 8 1, 3) := by decide +kernel
theorem dX8_carry_190 : decode cX8_carry 190 = .ok (.goto (-130), 3) := by decide +kernel
theorem dX8_carry_193 : decode cX8_carry 193 = .ok (.iload 7, 2) := by decide +kernel
theorem dX8_carry_195 : decode cX8_carry 195 = .ok (.ireturn, 1) := by decide +kernel
theorem dX8_likenessOf_0 : decode cX8_likenessOf 0 = .ok (.aload_n 0, 1) := by decide +kernel
theorem dX8_likenessOf_1 : decode cX8_likenessOf 1 = .ok (.getfield 59, 3) := by decide +kernel
theorem dX8_likenessOf_4 : decode cX8_likenessOf 4 = .ok (.ifnonnull 14, 3) := by decide +kernel
theorem dX8_likenessOf_7 : decode cX8_likenessOf 7 = .ok (.aload_n 0, 1) := by decide +kernel
theorem dX8_likenessOf_8 : decode cX8_likenessOf 8 = .ok (.new 9, 3) := by decide +kernel
theorem dX8_likenessOf_11 : decode cX8_likenessOf 11 = .ok (.dup, 1) := by decide +kernel
theorem dX8_likenessOf_12 : decode cX8_likenessOf 12 = .ok (.invokespecial 67, 3) := by decide +kernel
theorem dX8_likenessOf_15 : decode cX8_likenessOf 15 = .ok (.putfield 59, 3) := by decide +kernel
theorem dX8_likenessOf_18 : decode cX8_likenessOf 18 = .ok (.aload_n 0, 1) := by decide +kernel
theorem dX8_likenessOf_19 : decode cX8_likenessOf 19 = .ok (.getfield 59, 3) := by decide +kernel
theorem dX8_likenessOf_22 : decode cX8_likenessOf 22 = .ok (.aload_n 1, 1) := by decide +kernel
theorem dX8_likenessOf_23 : decode cX8_likenessOf 23 = .ok (.invokevirtual 250, 3) := by decide +kernel
theorem dX8_likenessOf_26 : decode cX8_likenessOf 26 = .ok (.aload_n 0, 1) := by decide +kernel
theorem dX8_likenessOf_27 : decode cX8_likenessOf 27 = .ok (.getfield 59, 3) := by decide +kernel
theorem dX8_likenessOf_30 : decode cX8_likenessOf 30 = .ok (.areturn, 1) := by decide +kernel
theorem dX9_init_0 : decode cX9_init 0 = .ok (.aload_n 0, 1) := by decide +kernel
theorem dX9_init_1 : decode cX9_init 1 = .ok (.invokespecial 1, 3) := by decide +kernel
theorem dX9_init_4 : decode cX9_init 4 = .ok (.aload_n 0, 1) := by decide +kernel
theorem dX9_init_5 : decode cX9_init 5 = .ok (.iconst 4, 1) := by decide +kernel
theorem dX9_init_6 : decode cX9_init 6 = .ok (.newarray .int, 2) := by decide +kernel
theorem dX9_init_8 : decode cX9_init 8 = .ok (.putfield 7, 3) := by decide +kernel
theorem dX9_init_11 : decode cX9_init 11 = .ok (.aload_n 0, 1) := by decide +kernel
theorem dX9_init_12 : decode cX9_init 12 = .ok (.iconst 4, 1) := by decide +kernel
theorem dX9_init_13 : decode cX9_init 13 = .ok (.newarray .int, 2) := by decide +kernel
theorem dX9_init_15 : decode cX9_init 15 = .ok (.putfield 13, 3) := by decide +kernel
theorem dX9_init_18 : decode cX9_init 18 = .ok (.aload_n 0, 1) := by decide +kernel
theorem dX9_init_19 : decode cX9_init 19 = .ok (.sipush 16384, 3) := by decide +kernel
theorem dX9_init_22 : decode cX9_init 22 = .ok (.newarray .int, 2) := by decide +kernel
theorem dX9_init_24 : decode cX9_init 24 = .ok (.putfield 16, 3) := by decide +kernel
theorem dX9_init_27 : decode cX9_init 27 = .ok (.aload_n 0, 1) := by decide +kernel
theorem dX9_init_28 : decode cX9_init 28 = .ok (.iconst (-1), 1) := by decide +kernel
theorem dX9_init_29 : decode cX9_init 29 = .ok (.putfield 19, 3) := by decide +kernel
theorem dX9_init_32 : decode cX9_init 32 = .ok (.aload_n 0, 1) := by decide +kernel
theorem dX9_init_33 : decode cX9_init 33 = .ok (.iconst 3, 1) := by decide +kernel
theorem dX9_init_34 : decode cX9_init 34 = .ok (.putfield 23, 3) := by decide +kernel
theorem dX9_init_37 : decode cX9_init 37 = .ok (.aload_n 0, 1) := by decide +kernel
theorem dX9_init_38 : decode cX9_init 38 = .ok (.sipush 255, 3) := by decide +kernel
theorem dX9_init_41 : decode cX9_init 41 = .ok (.putfield 26, 3) := by decide +kernel
theorem dX9_init_44 : decode cX9_init 44 = .ok (.aload_n 0, 1) := by decide +kernel
theorem dX9_init_45 : decode cX9_init 45 = .ok (.ldc 29, 2) := by decide +kernel
theorem dX9_init_47 : decode cX9_init 47 = .ok (.putfield 30, 3) := by decide +kernel
theorem dX9_init_50 : decode cX9_init 50 = .ok (.aload_n 0, 1) := by decide +kernel
theorem dX9_init_51 : decode cX9_init 51 = .ok (.sipush 4096, 3) := by decide +kernel
theorem dX9_init_54 : decode cX9_init 54 = .ok (.newarray .boolean, 2) := by decide +kernel
theorem dX9_init_56 : decode cX9_init 56 = .ok (.putfield 33, 3) := by decide +kernel
theorem dX9_init_59 : decode cX9_init 59 = .ok (.aload_n 0, 1) := by decide +kernel
theorem dX9_init_60 : decode cX9_init 60 = .ok (.sipush 4096, 3) := by decide +kernel
theorem dX9_init_63 : decode cX9_init 63 = .ok (.newarray .int, 2) := by decide +kernel
theorem dX9_init_65 : decode cX9_init 65 = .ok (.putfield 37, 3) := by decide +kernel
theorem dX9_init_68 : decode cX9_init 68 = .ok (.aload_n 0, 1) := by decide +kernel
theorem dX9_init_69 : decode cX9_init 69 = .ok (.sipush 4096, 3) := by decide +kernel
theorem dX9_init_72 : decode cX9_init 72 = .ok (.newarray .int, 2) := by decide +kernel
theorem dX9_init_74 : decode cX9_init 74 = .ok (.putfield 40, 3) := by decide +kernel
theorem dX9_init_77 : decode cX9_init 77 = .ok (.aload_n 0, 1) := by decide +kernel
theorem dX9_init_78 : decode cX9_init 78 = .ok (.bipush 48, 2) := by decide +kernel
theorem dX9_init_80 : decode cX9_init 80 = .ok (.newarray .int, 2) := by decide +kernel
theorem dX9_init_82 : decode cX9_init 82 = .ok (.putfield 43, 3) := by decide +kernel
theorem dX9_init_85 : decode cX9_init 85 = .ok (.aload_n 0, 1) := by decide +kernel
theorem dX9_init_86 : decode cX9_init 86 = .ok (.bipush 48, 2) := by decide +kernel
theorem dX9_init_88 : decode cX9_init 88 = .ok (.newarray .int, 2) := by decide +kernel
theorem dX9_init_90 : decode cX9_init 90 = .ok (.putfield 46, 3) := by decide +kernel
theorem dX9_init_93 : decode cX9_init 93 = .ok (.aload_n 0, 1) := by decide +kernel
theorem dX9_init_94 : decode cX9_init 94 = .ok (.bipush 48, 2) := by decide +kernel
theorem dX9_init_96 : decode cX9_init 96 = .ok (.newarray .boolean, 2) := by decide +kernel
theorem dX9_init_98 : decode cX9_init 98 = .ok (.putfield 49, 3) := by decide +kernel
theorem dX9_init_101 : decode cX9_init 101 = .ok (.aload_n 0, 1) := by decide +kernel
theorem dX9_init_102 : decode cX9_init 102 = .ok (.iconst 3, 1) := by decide +kernel
theorem dX9_init_103 : decode cX9_init 103 = .ok (.newarray .int, 2) := by decide +kernel
theorem dX9_init_105 : decode cX9_init 105 = .ok (.putfield 52, 3) := by decide +kernel
theorem dX9_init_108 : decode cX9_init 108 = .ok (.aload_n 0, 1) := by decide +kernel
theorem dX9_init_109 : decode cX9_init 109 = .ok (.iconst 3, 1) := by decide +kernel
theorem dX9_init_110 : decode cX9_init 110 = .ok (.newarray .int, 2) := by decide +kernel
theorem dX9_init_112 : decode cX9_init 112 = .ok (.putfield 55, 3) := by decide +kernel
theorem dX9_init_115 : decode cX9_init 115 = .ok (.aload_n 0, 1) := by decide +kernel
theorem dX9_init_116 : decode cX9_init 116 = .ok (.iconst 3, 1) := by decide +kernel
theorem dX9_init_117 : decode cX9_init 117 = .ok (.newarray .int, 2) := by decide +kernel
theorem dX9_init_119 : decode cX9_init 119 = .ok (.putfield 58, 3) := by decide +kernel
theorem dX9_init_122 : decode cX9_init 122 = .ok (.aload_n 0, 1) := by decide +kernel
theorem dX9_init_123 : decode cX9_init 123 = .ok (.sipush 4096, 3) := by decide +kernel
theorem dX9_init_126 : decode cX9_init 126 = .ok (.newarray .int, 2) := by decide +kernel
theorem dX9_init_128 : decode cX9_init 128 = .ok (.putfield 61, 3) := by decide +kernel
theorem dX9_init_131 : decode cX9_init 131 = .ok (.return_, 1) := by decide +kernel
theorem dX9_isSheet_0 : decode cX9_isSheet 0 = .ok (.iload_n 1, 1) := by decide +kernel
theorem dX9_isSheet_1 : decode cX9_isSheet 1 = .ok (.ifCond .lt 21, 3) := by decide +kernel
theorem dX9_isSheet_4 : decode cX9_isSheet 4 = .ok (.iload_n 1, 1) := by decide +kernel
theorem dX9_isSheet_5 : decode cX9_isSheet 5 = .ok (.iconst 4, 1) := by decide +kernel
theorem dX9_isSheet_6 : decode cX9_isSheet 6 = .ok (.if_icmp .ge 16, 3) := by decide +kernel
theorem dX9_isSheet_9 : decode cX9_isSheet 9 = .ok (.aload_n 0, 1) := by decide +kernel
theorem dX9_isSheet_10 : decode cX9_isSheet 10 = .ok (.getfield 7, 3) := by decide +kernel
theorem dX9_isSheet_13 : decode cX9_isSheet 13 = .ok (.iload_n 1, 1) := by decide +kernel
theorem dX9_isSheet_14 : decode cX9_isSheet 14 = .ok (.iaload, 1) := by decide +kernel
theorem dX9_isSheet_15 : decode cX9_isSheet 15 = .ok (.ifCond .le 7, 3) := by decide +kernel
theorem dX9_isSheet_18 : decode cX9_isSheet 18 = .ok (.iconst 1, 1) := by decide +kernel
theorem dX9_isSheet_19 : decode cX9_isSheet 19 = .ok (.goto 4, 3) := by decide +kernel
theorem dX9_isSheet_22 : decode cX9_isSheet 22 = .ok (.iconst 0, 1) := by decide +kernel
theorem dX9_isSheet_23 : decode cX9_isSheet 23 = .ok (.ireturn, 1) := by decide +kernel
theorem dX9_isOn_0 : decode cX9_isOn 0 = .ok (.iload_n 2, 1) := by decide +kernel
theorem dX9_isOn_1 : decode cX9_isOn 1 = .ok (.ifCond .lt 31, 3) := by decide +kernel
theorem dX9_isOn_4 : decode cX9_isOn 4 = .ok (.iload_n 2, 1) := by decide +kernel
theorem dX9_isOn_5 : decode cX9_isOn 5 = .ok (.aload_n 0, 1) := by decide +kernel
theorem dX9_isOn_6 : decode cX9_isOn 6 = .ok (.getfield 7, 3) := by decide +kernel
theorem dX9_isOn_9 : decode cX9_isOn 9 = .ok (.iload_n 1, 1) := by decide +kernel
theorem dX9_isOn_10 : decode cX9_isOn 10 = .ok (.iaload, 1) := by decide +kernel
theorem dX9_isOn_11 : decode cX9_isOn 11 = .ok (.if_icmp .ge 21, 3) := by decide +kernel
theorem dX9_isOn_14 : decode cX9_isOn 14 = .ok (.iload_n 3, 1) := by decide +kernel
theorem dX9_isOn_15 : decode cX9_isOn 15 = .ok (.ifCond .lt 17, 3) := by decide +kernel
theorem dX9_isOn_18 : decode cX9_isOn 18 = .ok (.iload_n 3, 1) := by decide +kernel
theorem dX9_isOn_19 : decode cX9_isOn 19 = .ok (.aload_n 0, 1) := by decide +kernel
theorem dX9_isOn_20 : decode cX9_isOn 20 = .ok (.getfield 13, 3) := by decide +kernel
theorem dX9_isOn_23 : decode cX9_isOn 23 = .ok (.iload_n 1, 1) := by decide +kernel
theorem dX9_isOn_24 : decode cX9_isOn 24 = .ok (.iaload, 1) := by decide +kernel
theorem dX9_isOn_25 : decode cX9_isOn 25 = .ok (.if_icmp .ge 7, 3) := by decide +kernel
theorem dX9_isOn_28 : decode cX9_isOn 28 = .ok (.iconst 1, 1) := by decide +kernel
theorem dX9_isOn_29 : decode cX9_isOn 29 = .ok (.goto 4, 3) := by decide +kernel
theorem dX9_isOn_32 : decode cX9_isOn 32 = .ok (.iconst 0, 1) := by decide +kernel
theorem dX9_isOn_33 : decode cX9_isOn 33 = .ok (.ireturn, 1) := by decide +kernel
theorem dX9_spot_0 : decode cX9_spot 0 = .ok (.sipush 4096, 3) := by decide +kernel
theorem dX9_spot_3 : decode cX9_spot 3 = .ok (.iload_n 0, 1) := by decide +kernel
theorem dX9_spot_4 : decode cX9_spot 4 = .ok (.imul, 1) := by decide +kernel
theorem dX9_spot_5 : decode cX9_spot 5 = .ok (.bipush 64, 2) := by decide +kernel
theorem dX9_spot_7 : decode cX9_spot 7 = .ok (.iload_n 2, 1) := by decide +kernel
theorem dX9_spot_8 : decode cX9_spot 8 = .ok (.imul, 1) := by decide +kernel
theorem dX9_spot_9 : decode cX9_spot 9 = .ok (.iadd, 1) := by decide +kernel
theorem dX9_spot_10 : decode cX9_spot 10 = .ok (.iload_n 1, 1) := by decide +kernel
theorem dX9_spot_11 : decode cX9_spot 11 = .ok (.iadd, 1) := by decide +kernel
theorem dX9_spot_12 : decode cX9_spot 12 = .ok (.ireturn, 1) := by decide +kernel
theorem dX9_isInClip_0 : decode cX9_isInClip 0 = .ok (.aload_n 0, 1) := by decide +kernel
theorem dX9_isInClip_1 : decode cX9_isInClip 1 = .ok (.getfield 64, 3) := by decide +kernel
theorem dX9_isInClip_4 : decode cX9_isInClip 4 = .ok (.ifCond .eq 35, 3) := by decide +kernel
theorem dX9_isInClip_7 : decode cX9_isInClip 7 = .ok (.iload_n 1, 1) := by decide +kernel
theorem dX9_isInClip_8 : decode cX9_isInClip 8 = .ok (.aload_n 0, 1) := by decide +kernel
theorem dX9_isInClip_9 : decode cX9_isInClip 9 = .ok (.getfield 68, 3) := by decide +kernel
theorem dX9_isInClip_12 : decode cX9_isInClip 12 = .ok (.if_icmp .lt 31, 3) := by decide +kernel
theorem dX9_isInClip_15 : decode cX9_isInClip 15 = .ok (.iload_n 1, 1) := by decide +kernel
theorem dX9_isInClip_16 : decode cX9_isInClip 16 = .ok (.aload_n 0, 1) := by decide +kernel
theorem dX9_isInClip_17 : decode cX9_isInClip 17 = .ok (.getfield 71, 3) := by decide +kernel
theorem dX9_isInClip_20 : decode cX9_isInClip 20 = .ok (.if_icmp .gt 23, 3) := by decide +kernel
theorem dX9_isInClip_23 : decode cX9_isInClip 23 = .ok (.iload_n 2, 1) := by decide +kernel
theorem dX9_isInClip_24 : decode cX9_isInClip 24 = .ok (.aload_n 0, 1) := by decide +kernel
theorem dX9_isInClip_25 : decode cX9_isInClip 25 = .ok (.getfield 74, 3) := by decide +kernel
theorem dX9_isInClip_28 : decode cX9_isInClip 28 = .ok (.if_icmp .lt 15, 3) := by decide +kernel
theorem dX9_isInClip_31 : decode cX9_isInClip 31 = .ok (.iload_n 2, 1) := by decide +kernel
theorem dX9_isInClip_32 : decode cX9_isInClip 32 = .ok (.aload_n 0, 1) := by decide +kernel
theorem dX9_isInClip_33 : decode cX9_isInClip 33 = .ok (.getfield 77, 3) := by decide +kernel
theorem dX9_isInClip_36 : decode cX9_isInClip 36 = .ok (.if_icmp .gt 7, 3) := by decide +kernel
theorem dX9_isInClip_39 : decode cX9_isInClip 39 = .ok (.iconst 1, 1) := by decide +kernel
theorem dX9_isInClip_40 : decode cX9_isInClip 40 = .ok (.goto 4, 3) := by decide +kernel
theorem dX9_isInClip_43 : decode cX9_isInClip 43 = .ok (.iconst 0, 1) := by decide +kernel
theorem dX9_isInClip_44 : decode cX9_isInClip 44 = .ok (.ireturn, 1) := by decide +kernel
theorem dX9_isOpen_0 : decode cX9_isOpen 0 = .ok (.aload_n 0, 1) := by decide +kernel
theorem dX9_isOpen_1 : decode cX9_isOpen 1 = .ok (.iload_n 1, 1) := by decide +kernel
theorem dX9_isOpen_2 : decode cX9_isOpen 2 = .ok (.iload_n 2, 1) := by decide +kernel
theorem dX9_isOpen_3 : decode cX9_isOpen 3 = .ok (.iload_n 3, 1) := by decide +kernel
theorem dX9_isOpen_4 : decode cX9_isOpen 4 = .ok (.invokevirtual 80, 3) := by decide +kernel
theorem dX9_isOpen_7 : decode cX9_isOpen 7 = .ok (.ifCond .eq 16, 3) := by decide +kernel
theorem dX9_isOpen_10 : decode cX9_isOpen 10 = .ok (.aload_n 0, 1) := by decide +kernel
theorem dX9_isOpen_11 : decode cX9_isOpen 11 = .ok (.iload_n 2, 1) := by decide +kernel
theorem dX9_isOpen_12 : decode cX9_isOpen 12 = .ok (.iload_n 3, 1) := by decide +kernel
theorem dX9_isOpen_13 : decode cX9_isOpen 13 = .ok (.invokevirtual 84, 3) := by decide +kernel
theorem dX9_isOpen_16 : decode cX9_isOpen 16 = .ok (.ifCond .eq 7, 3) := by decide +kernel
theorem dX9_isOpen_19 : decode cX9_isOpen 19 = .ok (.iconst 1, 1) := by decide +kernel
theorem dX9_isOpen_20 : decode cX9_isOpen 20 = .ok (.goto 4, 3) := by decide +kernel
theorem dX9_isOpen_23 : decode cX9_isOpen 23 = .ok (.iconst 0, 1) := by decide +kernel
theorem dX9_isOpen_24 : decode cX9_isOpen 24 = .ok (.ireturn, 1) := by decide +kernel
theorem dX9_nearest_0 : decode cX9_nearest 0 = .ok (.iconst 2, 1) := by decide +kernel
theorem dX9_nearest_1 : decode cX9_nearest 1 = .ok (.iload_n 0, 1) := by decide +kernel
theorem dX9_nearest_2 : decode cX9_nearest 2 = .ok (.imul, 1) := by decide +kernel
theorem dX9_nearest_3 : decode cX9_nearest 3 = .ok (.iload_n 1, 1) := by decide +kernel
theorem dX9_nearest_4 : decode cX9_nearest 4 = .ok (.iadd, 1) := by decide +kernel
theorem dX9_nearest_5 : decode cX9_nearest 5 = .ok (.iconst 2, 1) := by decide +kernel
theorem dX9_nearest_6 : decode cX9_nearest 6 = .ok (.iload_n 1, 1) := by decide +kernel
theorem dX9_nearest_7 : decode cX9_nearest 7 = .ok (.imul, 1) := by decide +kernel
theorem dX9_nearest_8 : decode cX9_nearest 8 = .ok (.idiv, 1) := by decide +kernel
theorem dX9_nearest_9 : decode cX9_nearest 9 = .ok (.ireturn, 1) := by decide +kernel
theorem dX9_channel_0 : decode cX9_channel 0 = .ok (.iload_n 0, 1) := by decide +kernel
theorem dX9_channel_1 : decode cX9_channel 1 = .ok (.bipush 24, 2) := by decide +kernel
theorem dX9_channel_3 : decode cX9_channel 3 = .ok (.bipush 8, 2) := by decide +kernel
theorem dX9_channel_5 : decode cX9_channel 5 = .ok (.iload_n 1, 1) := by decide +kernel
theorem dX9_channel_6 : decode cX9_channel 6 = .ok (.imul, 1) := by decide +kernel
theorem dX9_channel_7 : decode cX9_channel 7 = .ok (.isub, 1) := by decide +kernel
theorem dX9_channel_8 : decode cX9_channel 8 = .ok (.ishr, 1) := by decide +kernel
theorem dX9_channel_9 : decode cX9_channel 9 = .ok (.sipush 255, 3) := by decide +kernel
theorem dX9_channel_12 : decode cX9_channel 12 = .ok (.iand, 1) := by decide +kernel
theorem dX9_channel_13 : decode cX9_channel 13 = .ok (.ireturn, 1) := by decide +kernel
theorem dX9_inkOf_0 : decode cX9_inkOf 0 = .ok (.iload_n 0, 1) := by decide +kernel
theorem dX9_inkOf_1 : decode cX9_inkOf 1 = .ok (.iconst 0, 1) := by decide +kernel
theorem dX9_inkOf_2 : decode cX9_inkOf 2 = .ok (.invokestatic 88, 3) := by decide +kernel
theorem dX9_inkOf_5 : decode cX9_inkOf 5 = .ok (.istore_n 1, 1) := by decide +kernel
theorem dX9_inkOf_6 : decode cX9_inkOf 6 = .ok (.iload_n 1, 1) := by decide +kernel
theorem dX9_inkOf_7 : decode cX9_inkOf 7 = .ok (.istore_n 2, 1) := by decide +kernel
theorem dX9_inkOf_8 : decode cX9_inkOf 8 = .ok (.iconst 1, 1) := by decide +kernel
theorem dX9_inkOf_9 : decode cX9_inkOf 9 = .ok (.istore_n 3, 1) := by decide +kernel
theorem dX9_inkOf_10 : decode cX9_inkOf 10 = .ok (.iload_n 3, 1) := by decide +kernel
theorem dX9_inkOf_11 : decode cX9_inkOf 11 = .ok (.iconst 4, 1) := by decide +kernel
theorem dX9_inkOf_12 : decode cX9_inkOf 12 = .ok (.if_icmp .ge 28, 3) := by decide +kernel
theorem dX9_inkOf_15 : decode cX9_inkOf 15 = .ok (.iload_n 2, 1) := by decide +kernel
theorem dX9_inkOf_16 : decode cX9_inkOf 16 = .ok (.bipush 8, 2) := by decide +kernel
theorem dX9_inkOf_18 : decode cX9_inkOf 18 = .ok (.ishl, 1) := by decide +kernel
theorem dX9_inkOf_19 : decode cX9_inkOf 19 = .ok (.iload_n 0, 1) := by decide +kernel
theorem dX9_inkOf_20 : decode cX9_inkOf 20 = .ok (.iload_n 3, 1) := by decide +kernel
theorem dX9_inkOf_21 : decode cX9_inkOf 21 = .ok (.invokestatic 88, 3) := by decide +kernel
theorem dX9_inkOf_24 : decode cX9_inkOf 24 = .ok (.iload_n 1, 1) := by decide +kernel
theorem dX9_inkOf_25 : decode cX9_inkOf 25 = .ok (.imul, 1) := by decide +kernel
theorem dX9_inkOf_26 : decode cX9_inkOf 26 = .ok (.sipush 255, 3) := by decide +kernel
theorem dX9_inkOf_29 : decode cX9_inkOf 29 = .ok (.invokestatic 92, 3) := by decide +kernel
theorem dX9_inkOf_32 : decode cX9_inkOf 32 = .ok (.ior, 1) := by decide +kernel
theorem dX9_inkOf_33 : decode cX9_inkOf 33 = .ok (.istore_n 2, 1) := by decide +kernel
theorem dX9_inkOf_34 : decode cX9_inkOf 34 = .ok (.iinc 3 1, 3) := by decide +kernel
theorem dX9_inkOf_37 : decode cX9_inkOf 37 = .ok (.goto (-27), 3) := by decide +kernel
theorem dX9_inkOf_40 : decode cX9_inkOf 40 = .ok (.iload_n 2, 1) := by decide +kernel
theorem dX9_inkOf_41 : decode cX9_inkOf 41 = .ok (.ireturn, 1) := by decide +kernel
theorem dX9_sourcePart_0 : decode cX9_sourcePart 0 = .ok (.aload_n 0, 1) := by decide +kernel
theorem dX9_sourcePart_1 : decode cX9_sourcePart 1 = .ok (.getfield 23, 3) := by decide +kernel
theorem dX9_sourcePart_4 : decode cX9_sourcePart 4 = .ok (.tableswitch 76 1 12 #[64, 76, 64, 68, 74, 76, 68, 76, 74, 68, 68, 64], 64) := by decide +kernel
theorem dX9_sourcePart_68 : decode cX9_sourcePart 68 = .ok (.sipush 255, 3) := by decide +kernel
theorem dX9_sourcePart_71 : decode cX9_sourcePart 71 = .ok (.ireturn, 1) := by decide +kernel
theorem dX9_sourcePart_72 : decode cX9_sourcePart 72 = .ok (.sipush 255, 3) := by decide +kernel
theorem dX9_sourcePart_75 : decode cX9_sourcePart 75 = .ok (.iload_n 2, 1) := by decide +kernel
theorem dX9_sourcePart_76 : decode cX9_sourcePart 76 = .ok (.isub, 1) := by decide +kernel
theorem dX9_sourcePart_77 : decode cX9_sourcePart 77 = .ok (.ireturn, 1) := by decide +kernel
theorem dX9_sourcePart_78 : decode cX9_sourcePart 78 = .ok (.iload_n 2, 1) := by decide +kernel
theorem dX9_sourcePart_79 : decode cX9_sourcePart 79 = .ok (.ireturn, 1) := by decide +kernel
theorem dX9_sourcePart_80 : decode cX9_sourcePart 80 = .ok (.iconst 0, 1) := by decide +kernel
theorem dX9_sourcePart_81 : decode cX9_sourcePart 81 = .ok (.ireturn, 1) := by decide +kernel
theorem dX9_otherPart_0 : decode cX9_otherPart 0 = .ok (.aload_n 0, 1) := by decide +kernel
theorem dX9_otherPart_1 : decode cX9_otherPart 1 = .ok (.getfield 23, 3) := by decide +kernel
theorem dX9_otherPart_4 : decode cX9_otherPart 4 = .ok (.tableswitch 72 2 12 #[60, 64, 60, 72, 70, 72, 64, 64, 70, 64, 60], 60) := by decide +kernel
theorem dX9_otherPart_64 : decode cX9_otherPart 64 = .ok (.sipush 255, 3) := by decide +kernel
theorem dX9_otherPart_67 : decode cX9_otherPart 67 = .ok (.ireturn, 1) := by decide +kernel
theorem dX9_otherPart_68 : decode cX9_otherPart 68 = .ok (.sipush 255, 3) := by decide +kernel
theorem dX9_otherPart_71 : decode cX9_otherPart 71 = .ok (.iload_n 1, 1) := by decide +kernel
theorem dX9_otherPart_72 : decode cX9_otherPart 72 = .ok (.isub, 1) := by decide +kernel
theorem dX9_otherPart_73 : decode cX9_otherPart 73 = .ok (.ireturn, 1) := by decide +kernel
theorem dX9_otherPart_74 : decode cX9_otherPart 74 = .ok (.iload_n 1, 1) := by decide +kernel
theorem dX9_otherPart_75 : decode cX9_otherPart 75 = .ok (.ireturn, 1) := by decide +kernel
theorem dX9_otherPart_76 : decode cX9_otherPart 76 = .ok (.iconst 0, 1) := by decide +kernel
theorem dX9_otherPart_77 : decode cX9_otherPart 77 = .ok (.ireturn, 1) := by decide +kernel
theorem dX9_laid_0 : decode cX9_laid 0 = .ok (.aload_n 0, 1) := by decide +kernel
theorem dX9_laid_1 : decode cX9_laid 1 = .ok (.iload_n 1, 1) := by decide +kernel
theorem dX9_laid_2 : decode cX9_laid 2 = .ok (.iconst 0, 1) := by decide +kernel
theorem dX9_laid_3 : decode cX9_laid 3 = .ok (.invokestatic 88, 3) := by decide +kernel
theorem dX9_laid_6 : decode cX9_laid 6 = .ok (.iload_n 2, 1) := by decide +kernel
theorem dX9_laid_7 : decode cX9_laid 7 = .ok (.iconst 0, 1) := by decide +kernel
theorem dX9_laid_8 : decode cX9_laid 8 = .ok (.invokestatic 88, 3) := by decide +kernel
theorem dX9_laid_11 : decode cX9_laid 11 = .ok (.invokevirtual 95, 3) := by decide +kernel
theorem dX9_laid_14 : decode cX9_laid 14 = .ok (.istore 4, 2) := by decide +kernel
theorem dX9_laid_16 : decode cX9_laid 16 = .ok (.aload_n 0, 1) := by decide +kernel
theorem dX9_laid_17 : decode cX9_laid 17 = .ok (.iload_n 1, 1) := by decide +kernel
theorem dX9_laid_18 : decode cX9_laid 18 = .ok (.iconst 0, 1) := by decide +kernel
theorem dX9_laid_19 : decode cX9_laid 19 = .ok (.invokestatic 88, 3) := by decide +kernel
theorem dX9_laid_22 : decode cX9_laid 22 = .ok (.iload_n 2, 1) := by decide +kernel
theorem dX9_laid_23 : decode cX9_laid 23 = .ok (.iconst 0, 1) := by decide +kernel
theorem dX9_laid_24 : decode cX9_laid 24 = .ok (.invokestatic 88, 3) := by decide +kernel
theorem dX9_laid_27 : decode cX9_laid 27 = .ok (.invokevirtual 98, 3) := by decide +kernel
theorem dX9_laid_30 : decode cX9_laid 30 = .ok (.istore 5, 2) := by decide +kernel
theorem dX9_laid_32 : decode cX9_laid 32 = .ok (.iconst 0, 1) := by decide +kernel
theorem dX9_laid_33 : decode cX9_laid 33 = .ok (.istore 6, 2) := by decide +kernel
theorem dX9_laid_35 : decode cX9_laid 35 = .ok (.iconst 0, 1) := by decide +kernel
theorem dX9_laid_36 : decode cX9_laid 36 = .ok (.istore 7, 2) := by decide +kernel
theorem dX9_laid_38 : decode cX9_laid 38 = .ok (.iload 7, 2) := by decide +kernel
theorem dX9_laid_40 : decode cX9_laid 40 = .ok (.iconst 4, 1) := by decide +kernel
theorem dX9_laid_41 : decode cX9_laid 41 = .ok (.if_icmp .ge 80, 3) := by decide +kernel
theorem dX9_laid_44 : decode cX9_laid 44 = .ok (.iload_n 1, 1) := by decide +kernel
theorem dX9_laid_45 : decode cX9_laid 45 = .ok (.iload 7, 2) := by decide +kernel
theorem dX9_laid_47 : decode cX9_laid 47 = .ok (.invokestatic 88, 3) := by decide +kernel
theorem dX9_laid_50 : decode cX9_laid 50 = .ok (.iload 4, 2) := by decide +kernel
theorem dX9_laid_52 : decode cX9_laid 52 = .ok (.imul, 1) := by decide +kernel
theorem dX9_laid_53 : decode cX9_laid 53 = .ok (.iload_n 2, 1) := by decide +kernel
theorem dX9_laid_54 : decode cX9_laid 54 = .ok (.iload 7, 2) := by decide +kernel
theorem dX9_laid_56 : decode cX9_laid 56 = .ok (.invokestatic 88, 3) := by decide +kernel
theorem dX9_laid_59 : decode cX9_laid 59 = .ok (.iload 5, 2) := by decide +kernel
theorem dX9_laid_61 : decode cX9_laid 61 = .ok (.imul, 1) := by decide +kernel
theorem dX9_laid_62 : decode cX9_laid 62 = .ok (.iadd, 1) := by decide +kernel
theorem dX9_laid_63 : decode cX9_laid 63 = .ok (.sipush 255, 3) := by decide +kernel
theorem dX9_laid_66 : decode cX9_laid 66 = .ok (.invokestatic 92, 3) := by decide +kernel
theorem dX9_laid_69 : decode cX9_laid 69 = .ok (.istore 8, 2) := by decide +kernel
theorem dX9_laid_71 : decode cX9_laid 71 = .ok (.iload 8, 2) := by decide +kernel
theorem dX9_laid_73 : decode cX9_laid 73 = .ok (.sipush 255, 3) := by decide +kernel
theorem dX9_laid_76 : decode cX9_laid 76 = .ok (.if_icmp .le 8, 3) := by decide +kernel
theorem dX9_laid_79 : decode cX9_laid 79 = .ok (.sipush 255, 3) := by decide +kernel
theorem dX9_laid_82 : decode cX9_laid 82 = .ok (.istore 8, 2) := by decide +kernel
theorem dX9_laid_84 : decode cX9_laid 84 = .ok (.iload 6, 2) := by decide +kernel
theorem dX9_laid_86 : decode cX9_laid 86 = .ok (.bipush 8, 2) := by decide +kernel
theorem dX9_laid_88 : decode cX9_laid 88 = .ok (.ishl, 1) := by decide +kernel
theorem dX9_laid_89 : decode cX9_laid 89 = .ok (.iload 8, 2) := by decide +kernel
theorem dX9_laid_91 : decode cX9_laid 91 = .ok (.iload_n 3, 1) := by decide +kernel
theorem dX9_laid_92 : decode cX9_laid 92 = .ok (.imul, 1) := by decide +kernel
theorem dX9_laid_93 : decode cX9_laid 93 = .ok (.iload_n 2, 1) := by decide +kernel
theorem dX9_laid_94 : decode cX9_laid 94 = .ok (.iload 7, 2) := by decide +kernel
theorem dX9_laid_96 : decode cX9_laid 96 = .ok (.invokestatic 88, 3) := by decide +kernel
theorem dX9_laid_99 : decode cX9_laid 99 = .ok (.sipush 255, 3) := by decide +kernel
theorem dX9_laid_102 : decode cX9_laid 102 = .ok (.iload_n 3, 1) := by decide +kernel
theorem dX9_laid_103 : decode cX9_laid 103 = .ok (.isub, 1) := by decide +kernel
theorem dX9_laid_104 : decode cX9_laid 104 = .ok (.imul, 1) := by decide +kernel
theorem dX9_laid_105 : decode cX9_laid 105 = .ok (.iadd, 1) := by decide +kernel
theorem dX9_laid_106 : decode cX9_laid 106 = .ok (.sipush 255, 3) := by decide +kernel
theorem dX9_laid_109 : decode cX9_laid 109 = .ok (.invokestatic 92, 3) := by decide +kernel
theorem dX9_laid_112 : decode cX9_laid 112 = .ok (.ior, 1) := by decide +kernel
theorem dX9_laid_113 : decode cX9_laid 113 = .ok (.istore 6, 2) := by decide +kernel
theorem dX9_laid_115 : decode cX9_laid 115 = .ok (.iinc 7 1, 3) := by decide +kernel
theorem dX9_laid_118 : decode cX9_laid 118 = .ok (.goto (-80), 3) := by decide +kernel
theorem dX9_laid_121 : decode cX9_laid 121 = .ok (.iload 6, 2) := by decide +kernel
theorem dX9_laid_123 : decode cX9_laid 123 = .ok (.ireturn, 1) := by decide +kernel
theorem dX9_begins_0 : decode cX9_begins 0 = .ok (.iconst 0, 1) := by decide +kernel
theorem dX9_begins_1 : decode cX9_begins 1 = .ok (.istore_n 1, 1) := by decide +kernel
theorem dX9_begins_2 : decode cX9_begins 2 = .ok (.iload_n 1, 1) := by decide +kernel
theorem dX9_begins_3 : decode cX9_begins 3 = .ok (.sipush 4096, 3) := by decide +kernel
theorem dX9_begins_6 : decode cX9_begins 6 = .ok (.if_icmp .ge 16, 3) := by decide +kernel
theorem dX9_begins_9 : decode cX9_begins 9 = .ok (.aload_n 0, 1) := by decide +kernel
theorem dX9_begins_10 : decode cX9_begins 10 = .ok (.getfield 33, 3) := by decide +kernel
theorem dX9_begins_13 : decode cX9_begins 13 = .ok (.iload_n 1, 1) := by decide +kernel
theorem dX9_begins_14 : decode cX9_begins 14 = .ok (.iconst 0, 1) := by decide +kernel
theorem dX9_begins_15 : decode cX9_begins 15 = .ok (.bastore, 1) := by decide +kernel
theorem dX9_begins_16 : decode cX9_begins 16 = .ok (.iinc 1 1, 3) := by decide +kernel
theorem dX9_begins_19 : decode cX9_begins 19 = .ok (.goto (-17), 3) := by decide +kernel
theorem dX9_begins_22 : decode cX9_begins 22 = .ok (.return_, 1) := by decide +kernel
theorem dX9_marks_0 : decode cX9_marks 0 = .ok (.aload_n 0, 1) := by decide +kernel
theorem dX9_marks_1 : decode cX9_marks 1 = .ok (.iload_n 1, 1) := by decide +kernel
theorem dX9_marks_2 : decode cX9_marks 2 = .ok (.iload_n 2, 1) := by decide +kernel
theorem dX9_marks_3 : decode cX9_marks 3 = .ok (.iload_n 3, 1) := by decide +kernel
theorem dX9_marks_4 : decode cX9_marks 4 = .ok (.invokevirtual 101, 3) := by decide +kernel
theorem dX9_marks_7 : decode cX9_marks 7 = .ok (.ifCond .ne 4, 3) := by decide +kernel
theorem dX9_marks_10 : decode cX9_marks 10 = .ok (.return_, 1) := by decide +kernel
theorem dX9_marks_11 : decode cX9_marks 11 = .ok (.bipush 64, 2) := by decide +kernel
theorem dX9_marks_13 : decode cX9_marks 13 = .ok (.iload_n 3, 1) := by decide +kernel
theorem dX9_marks_14 : decode cX9_marks 14 = .ok (.imul, 1) := by decide +kernel
theorem dX9_marks_15 : decode cX9_marks 15 = .ok (.iload_n 2, 1) := by decide +kernel
theorem dX9_marks_16 : decode cX9_marks 16 = .ok (.iadd, 1) := by decide +kernel
theorem dX9_marks_17 : decode cX9_marks 17 = .ok (.istore 6, 2) := by decide +kernel
theorem dX9_marks_19 : decode cX9_marks 19 = .ok (.aload_n 0, 1) := by decide +kernel
theorem dX9_marks_20 : decode cX9_marks 20 = .ok (.getfield 33, 3) := by decide +kernel
theorem dX9_marks_23 : decode cX9_marks 23 = .ok (.iload 6, 2) := by decide +kernel
theorem dX9_marks_25 : decode cX9_marks 25 = .ok (.iconst 1, 1) := by decide +kernel
theorem dX9_marks_26 : decode cX9_marks 26 = .ok (.bastore, 1) := by decide +kernel
theorem dX9_marks_27 : decode cX9_marks 27 = .ok (.aload_n 0, 1) := by decide +kernel
theorem dX9_marks_28 : decode cX9_marks 28 = .ok (.getfield 37, 3) := by decide +kernel
theorem dX9_marks_31 : decode cX9_marks 31 = .ok (.iload 6, 2) := by decide +kernel
theorem dX9_marks_33 : decode cX9_marks 33 = .ok (.iload 5, 2) := by decide +kernel
theorem dX9_marks_35 : decode cX9_marks 35 = .ok (.iastore, 1) := by decide +kernel
theorem dX9_marks_36 : decode cX9_marks 36 = .ok (.aload_n 0, 1) := by decide +kernel
theorem dX9_marks_37 : decode cX9_marks 37 = .ok (.getfield 40, 3) := by decide +kernel
theorem dX9_marks_40 : decode cX9_marks 40 = .ok (.iload 6, 2) := by decide +kernel
theorem dX9_marks_42 : decode cX9_marks 42 = .ok (.iload 4, 2) := by decide +kernel
theorem dX9_marks_44 : decode cX9_marks 44 = .ok (.iastore, 1) := by decide +kernel
theorem dX9_marks_45 : decode cX9_marks 45 = .ok (.return_, 1) := by decide +kernel
theorem dX9_lays_0 : decode cX9_lays 0 = .ok (.iconst 0, 1) := by decide +kernel
theorem dX9_lays_1 : decode cX9_lays 1 = .ok (.istore_n 2, 1) := by decide +kernel
theorem dX9_lays_2 : decode cX9_lays 2 = .ok (.iconst 0, 1) := by decide +kernel
theorem dX9_lays_3 : decode cX9_lays 3 = .ok (.istore_n 3, 1) := by decide +kernel
theorem dX9_lays_4 : decode cX9_lays 4 = .ok (.iload_n 3, 1) := by decide +kernel
theorem dX9_lays_5 : decode cX9_lays 5 = .ok (.sipush 4096, 3) := by decide +kernel
theorem dX9_lays_8 : decode cX9_lays 8 = .ok (.if_icmp .ge 65, 3) := by decide +kernel
theorem dX9_lays_11 : decode cX9_lays 11 = .ok (.aload_n 0, 1) := by decide +kernel
theorem dX9_lays_12 : decode cX9_lays 12 = .ok (.getfield 33, 3) := by decide +kernel
theorem dX9_lays_15 : decode cX9_lays 15 = .ok (.iload_n 3, 1) := by decide +kernel
theorem dX9_lays_16 : decode cX9_lays 16 = .ok (.baload, 1) := by decide +kernel
theorem dX9_lays_17 : decode cX9_lays 17 = .ok (.ifCond .ne 6, 3) := by decide +kernel
theorem dX9_lays_20 : decode cX9_lays 20 = .ok (.goto 47, 3) := by decide +kernel
theorem dX9_lays_23 : decode cX9_lays 23 = .ok (.aload_n 0, 1) := by decide +kernel
theorem dX9_lays_24 : decode cX9_lays 24 = .ok (.getfield 16, 3) := by decide +kernel
theorem dX9_lays_27 : decode cX9_lays 27 = .ok (.sipush 4096, 3) := by decide +kernel
theorem dX9_lays_30 : decode cX9_lays 30 = .ok (.iload_n 1, 1) := by decide +kernel
theorem dX9_lays_31 : decode cX9_lays 31 = .ok (.imul, 1) := by decide +kernel
theorem dX9_lays_32 : decode cX9_lays 32 = .ok (.iload_n 3, 1) := by decide +kernel
theorem dX9_lays_33 : decode cX9_lays 33 = .ok (.iadd, 1) := by decide +kernel
theorem dX9_lays_34 : decode cX9_lays 34 = .ok (.aload_n 0, 1) := by decide +kernel
theorem dX9_lays_35 : decode cX9_lays 35 = .ok (.aload_n 0, 1) := by decide +kernel
theorem dX9_lays_36 : decode cX9_lays 36 = .ok (.getfield 40, 3) := by decide +kernel
theorem dX9_lays_39 : decode cX9_lays 39 = .ok (.iload_n 3, 1) := by decide +kernel
theorem dX9_lays_40 : decode cX9_lays 40 = .ok (.iaload, 1) := by decide +kernel
theorem dX9_lays_41 : decode cX9_lays 41 = .ok (.aload_n 0, 1) := by decide +kernel
theorem dX9_lays_42 : decode cX9_lays 42 = .ok (.getfield 16, 3) := by decide +kernel
theorem dX9_lays_45 : decode cX9_lays 45 = .ok (.sipush 4096, 3) := by decide +kernel
theorem dX9_lays_48 : decode cX9_lays 48 = .ok (.iload_n 1, 1) := by decide +kernel
theorem dX9_lays_49 : decode cX9_lays 49 = .ok (.imul, 1) := by decide +kernel
theorem dX9_lays_50 : decode cX9_lays 50 = .ok (.iload_n 3, 1) := by decide +kernel
theorem dX9_lays_51 : decode cX9_lays 51 = .ok (.iadd, 1) := by decide +kernel
theorem dX9_lays_52 : decode cX9_lays 52 = .ok (.iaload, 1) := by decide +kernel
theorem dX9_lays_53 : decode cX9_lays 53 = .ok (.aload_n 0, 1) := by decide +kernel
theorem dX9_lays_54 : decode cX9_lays 54 = .ok (.getfield 37, 3) := by decide +kernel
theorem dX9_lays_57 : decode cX9_lays 57 = .ok (.iload_n 3, 1) := by decide +kernel
theorem dX9_lays_58 : decode cX9_lays 58 = .ok (.iaload, 1) := by decide +kernel
theorem dX9_lays_59 : decode cX9_lays 59 = .ok (.invokevirtual 104, 3) := by decide +kernel
theorem dX9_lays_62 : decode cX9_lays 62 = .ok (.iastore, 1) := by decide +kernel
theorem dX9_lays_63 : decode cX9_lays 63 = .ok (.iload_n 2, 1) := by decide +kernel
theorem dX9_lays_64 : decode cX9_lays 64 = .ok (.iconst 1, 1) := by decide +kernel
theorem dX9_lays_65 : decode cX9_lays 65 = .ok (.iadd, 1) := by decide +kernel
theorem dX9_lays_66 : decode cX9_lays 66 = .ok (.istore_n 2, 1) := by decide +kernel
theorem dX9_lays_67 : decode cX9_lays 67 = .ok (.iinc 3 1, 3) := by decide +kernel
theorem dX9_lays_70 : decode cX9_lays 70 = .ok (.goto (-66), 3) := by decide +kernel
theorem dX9_lays_73 : decode cX9_lays 73 = .ok (.iload_n 2, 1) := by decide +kernel
theorem dX9_lays_74 : decode cX9_lays 74 = .ok (.ireturn, 1) := by decide +kernel
theorem dX9_sheet_0 : decode cX9_sheet 0 = .ok (.iload_n 1, 1) := by decide +kernel
theorem dX9_sheet_1 : decode cX9_sheet 1 = .ok (.ifCond .lt 30, 3) := by decide +kernel
theorem dX9_sheet_4 : decode cX9_sheet 4 = .ok (.iload_n 1, 1) := by decide +kernel
theorem dX9_sheet_5 : decode cX9_sheet 5 = .ok (.iconst 3, 1) := by decide +kernel
theorem dX9_sheet_6 : decode cX9_sheet 6 = .ok (.if_icmp .gt 25, 3) := by decide +kernel
theorem dX9_sheet_9 : decode cX9_sheet 9 = .ok (.iload_n 2, 1) := by decide +kernel
theorem dX9_sheet_10 : decode cX9_sheet 10 = .ok (.iconst 1, 1) := by decide +kernel
theorem dX9_sheet_11 : decode cX9_sheet 11 = .ok (.if_icmp .lt 20, 3) := by decide +kernel
theorem dX9_sheet_14 : decode cX9_sheet 14 = .ok (.iload_n 2, 1) := by decide +kernel
theorem dX9_sheet_15 : decode cX9_sheet 15 = .ok (.bipush 64, 2) := by decide +kernel
theorem dX9_sheet_17 : decode cX9_sheet 17 = .ok (.if_icmp .gt 14, 3) := by decide +kernel
theorem dX9_sheet_20 : decode cX9_sheet 20 = .ok (.iload_n 3, 1) := by decide +kernel
theorem dX9_sheet_21 : decode cX9_sheet 21 = .ok (.iconst 1, 1) := by decide +kernel
theorem dX9_sheet_22 : decode cX9_sheet 22 = .ok (.if_icmp .lt 9, 3) := by decide +kernel
theorem dX9_sheet_25 : decode cX9_sheet 25 = .ok (.iload_n 3, 1) := by decide +kernel
theorem dX9_sheet_26 : decode cX9_sheet 26 = .ok (.bipush 64, 2) := by decide +kernel
theorem dX9_sheet_28 : decode cX9_sheet 28 = .ok (.if_icmp .le 5, 3) := by decide +kernel
theorem dX9_sheet_31 : decode cX9_sheet 31 = .ok (.iconst 0, 1) := by decide +kernel
theorem dX9_sheet_32 : decode cX9_sheet 32 = .ok (.ireturn, 1) := by decide +kernel
theorem dX9_sheet_33 : decode cX9_sheet 33 = .ok (.aload_n 0, 1) := by decide +kernel
theorem dX9_sheet_34 : decode cX9_sheet 34 = .ok (.getfield 7, 3) := by decide +kernel
theorem dX9_sheet_37 : decode cX9_sheet 37 = .ok (.iload_n 1, 1) := by decide +kernel
theorem dX9_sheet_38 : decode cX9_sheet 38 = .ok (.iload_n 2, 1) := by decide +kernel
theorem dX9_sheet_39 : decode cX9_sheet 39 = .ok (.iastore, 1) := by decide +kernel
theorem dX9_sheet_40 : decode cX9_sheet 40 = .ok (.aload_n 0, 1) := by decide +kernel
theorem dX9_sheet_41 : decode cX9_sheet 41 = .ok (.getfield 13, 3) := by decide +kernel
theorem dX9_sheet_44 : decode cX9_sheet 44 = .ok (.iload_n 1, 1) := by decide +kernel
theorem dX9_sheet_45 : decode cX9_sheet 45 = .ok (.iload_n 3, 1) := by decide +kernel
theorem dX9_sheet_46 : decode cX9_sheet 46 = .ok (.iastore, 1) := by decide +kernel
theorem dX9_sheet_47 : decode cX9_sheet 47 = .ok (.iconst 0, 1) := by decide +kernel
theorem dX9_sheet_48 : decode cX9_sheet 48 = .ok (.istore 4, 2) := by decide +kernel
theorem dX9_sheet_50 : decode cX9_sheet 50 = .ok (.iload 4, 2) := by decide +kernel
theorem dX9_sheet_52 : decode cX9_sheet 52 = .ok (.sipush 4096, 3) := by decide +kernel
theorem dX9_sheet_55 : decode cX9_sheet 55 = .ok (.if_icmp .ge 23, 3) := by decide +kernel
theorem dX9_sheet_58 : decode cX9_sheet 58 = .ok (.aload_n 0, 1) := by decide +kernel
theorem dX9_sheet_59 : decode cX9_sheet 59 = .ok (.getfield 16, 3) := by decide +kernel
theorem dX9_sheet_62 : decode cX9_sheet 62 = .ok (.sipush 4096, 3) := by decide +kernel
theorem dX9_sheet_65 : decode cX9_sheet 65 = .ok (.iload_n 1, 1) := by decide +kernel
theorem dX9_sheet_66 : decode cX9_sheet 66 = .ok (.imul, 1) := by decide +kernel
theorem dX9_sheet_67 : decode cX9_sheet 67 = .ok (.iload 4, 2) := by decide +kernel
theorem dX9_sheet_69 : decode cX9_sheet 69 = .ok (.iadd, 1) := by decide +kernel
theorem dX9_sheet_70 : decode cX9_sheet 70 = .ok (.iconst 0, 1) := by decide +kernel
theorem dX9_sheet_71 : decode cX9_sheet 71 = .ok (.iastore, 1) := by decide +kernel
theorem dX9_sheet_72 : decode cX9_sheet 72 = .ok (.iinc 4 1, 3) := by decide +kernel
theorem dX9_sheet_75 : decode cX9_sheet 75 = .ok (.goto (-25), 3) := by decide +kernel
theorem dX9_sheet_78 : decode cX9_sheet 78 = .ok (.iconst 1, 1) := by decide +kernel
theorem dX9_sheet_79 : decode cX9_sheet 79 = .ok (.ireturn, 1) := by decide +kernel
theorem dX9_ink_0 : decode cX9_ink 0 = .ok (.aload_n 0, 1) := by decide +kernel
theorem dX9_ink_1 : decode cX9_ink 1 = .ok (.iload_n 1, 1) := by decide +kernel
theorem dX9_ink_2 : decode cX9_ink 2 = .ok (.invokestatic 108, 3) := by decide +kernel
theorem dX9_ink_5 : decode cX9_ink 5 = .ok (.putfield 19, 3) := by decide +kernel
theorem dX9_ink_8 : decode cX9_ink 8 = .ok (.return_, 1) := by decide +kernel
theorem dX9_way_0 : decode cX9_way 0 = .ok (.iload_n 1, 1) := by decide +kernel
theorem dX9_way_1 : decode cX9_way 1 = .ok (.ifCond .lt 20, 3) := by decide +kernel
theorem dX9_way_4 : decode cX9_way 4 = .ok (.iload_n 1, 1) := by decide +kernel
theorem dX9_way_5 : decode cX9_way 5 = .ok (.bipush 12, 2) := by decide +kernel
theorem dX9_way_7 : decode cX9_way 7 = .ok (.if_icmp .gt 14, 3) := by decide +kernel
theorem dX9_way_10 : decode cX9_way 10 = .ok (.iload_n 2, 1) := by decide +kernel
theorem dX9_way_11 : decode cX9_way 11 = .ok (.ifCond .lt 10, 3) := by decide +kernel
theorem dX9_way_14 : decode cX9_way 14 = .ok (.iload_n 2, 1) := by decide +kernel
theorem dX9_way_15 : decode cX9_way 15 = .ok (.sipush 255, 3) := by decide +kernel
theorem dX9_way_18 : decode cX9_way 18 = .ok (.if_icmp .le 5, 3) := by decide +kernel
theorem dX9_way_21 : decode cX9_way 21 = .ok (.iconst 0, 1) := by decide +kernel
theorem dX9_way_22 : decode cX9_way 22 = .ok (.ireturn, 1) := by decide +kernel
theorem dX9_way_23 : decode cX9_way 23 = .ok (.aload_n 0, 1) := by decide +kernel
theorem dX9_way_24 : decode cX9_way 24 = .ok (.iload_n 1, 1) := by decide +kernel
theorem dX9_way_25 : decode cX9_way 25 = .ok (.putfield 23, 3) := by decide +kernel
theorem dX9_way_28 : decode cX9_way 28 = .ok (.aload_n 0, 1) := by decide +kernel
theorem dX9_way_29 : decode cX9_way 29 = .ok (.iload_n 2, 1) := by decide +kernel
theorem dX9_way_30 : decode cX9_way 30 = .ok (.putfield 26, 3) := by decide +kernel
theorem dX9_way_33 : decode cX9_way 33 = .ok (.iconst 1, 1) := by decide +kernel
theorem dX9_way_34 : decode cX9_way 34 = .ok (.ireturn, 1) := by decide +kernel
theorem dX9_clip_0 : decode cX9_clip 0 = .ok (.aload_n 0, 1) := by decide +kernel
theorem dX9_clip_1 : decode cX9_clip 1 = .ok (.iconst 1, 1) := by decide +kernel
theorem dX9_clip_2 : decode cX9_clip 2 = .ok (.putfield 64, 3) := by decide +kernel
theorem dX9_clip_5 : decode cX9_clip 5 = .ok (.aload_n 0, 1) := by decide +kernel
theorem dX9_clip_6 : decode cX9_clip 6 = .ok (.iload_n 1, 1) := by decide +kernel
theorem dX9_clip_7 : decode cX9_clip 7 = .ok (.putfield 68, 3) := by decide +kernel
theorem dX9_clip_10 : decode cX9_clip 10 = .ok (.aload_n 0, 1) := by decide +kernel
theorem dX9_clip_11 : decode cX9_clip 11 = .ok (.iload_n 3, 1) := by decide +kernel
theorem dX9_clip_12 : decode cX9_clip 12 = .ok (.putfield 71, 3) := by decide +kernel
theorem dX9_clip_15 : decode cX9_clip 15 = .ok (.aload_n 0, 1) := by decide +kernel
theorem dX9_clip_16 : decode cX9_clip 16 = .ok (.iload_n 2, 1) := by decide +kernel
theorem dX9_clip_17 : decode cX9_clip 17 = .ok (.putfield 74, 3) := by decide +kernel
theorem dX9_clip_20 : decode cX9_clip 20 = .ok (.aload_n 0, 1) := by decide +kernel
theorem dX9_clip_21 : decode cX9_clip 21 = .ok (.iload 4, 2) := by decide +kernel
theorem dX9_clip_23 : decode cX9_clip 23 = .ok (.putfield 77, 3) := by decide +kernel
theorem dX9_clip_26 : decode cX9_clip 26 = .ok (.return_, 1) := by decide +kernel
theorem dX9_dashes_0 : decode cX9_dashes 0 = .ok (.aload_n 0, 1) := by decide +kernel
theorem dX9_dashes_1 : decode cX9_dashes 1 = .ok (.iload_n 1, 1) := by decide +kernel
theorem dX9_dashes_2 : decode cX9_dashes 2 = .ok (.ldc 29, 2) := by decide +kernel
theorem dX9_dashes_4 : decode cX9_dashes 4 = .ok (.iand, 1) := by decide +kernel
theorem dX9_dashes_5 : decode cX9_dashes 5 = .ok (.putfield 30, 3) := by decide +kernel
theorem dX9_dashes_8 : decode cX9_dashes 8 = .ok (.return_, 1) := by decide +kernel
theorem dX9_isNear_0 : decode cX9_isNear 0 = .ok (.iload_n 0, 1) := by decide +kernel
theorem dX9_isNear_1 : decode cX9_isNear 1 = .ok (.iload_n 1, 1) := by decide +kernel
theorem dX9_isNear_2 : decode cX9_isNear 2 = .ok (.ineg, 1) := by decide +kernel
theorem dX9_isNear_3 : decode cX9_isNear 3 = .ok (.if_icmp .lt 12, 3) := by decide +kernel
theorem dX9_isNear_6 : decode cX9_isNear 6 = .ok (.iload_n 0, 1) := by decide +kernel
theorem dX9_isNear_7 : decode cX9_isNear 7 = .ok (.iload_n 1, 1) := by decide +kernel
theorem dX9_isNear_8 : decode cX9_isNear 8 = .ok (.if_icmp .gt 7, 3) := by decide +kernel
theorem dX9_isNear_11 : decode cX9_isNear 11 = .ok (.iconst 1, 1) := by decide +kernel
theorem dX9_isNear_12 : decode cX9_isNear 12 = .ok (.goto 4, 3) := by decide +kernel
theorem dX9_isNear_15 : decode cX9_isNear 15 = .ok (.iconst 0, 1) := by decide +kernel
theorem dX9_isNear_16 : decode cX9_isNear 16 = .ok (.ireturn, 1) := by decide +kernel
theorem dX9_away_0 : decode cX9_away 0 = .ok (.iload_n 0, 1) := by decide +kernel
theorem dX9_away_1 : decode cX9_away 1 = .ok (.iload_n 1, 1) := by decide +kernel
theorem dX9_away_2 : decode cX9_away 2 = .ok (.if_icmp .ge 9, 3) := by decide +kernel
theorem dX9_away_5 : decode cX9_away 5 = .ok (.iload_n 1, 1) := by decide +kernel
theorem dX9_away_6 : decode cX9_away 6 = .ok (.iload_n 0, 1) := by decide +kernel
theorem dX9_away_7 : decode cX9_away 7 = .ok (.isub, 1) := by decide +kernel
theorem dX9_away_8 : decode cX9_away 8 = .ok (.goto 6, 3) := by decide +kernel
theorem dX9_away_11 : decode cX9_away 11 = .ok (.iload_n 0, 1) := by decide +kernel
theorem dX9_away_12 : decode cX9_away 12 = .ok (.iload_n 1, 1) := by decide +kernel
theorem dX9_away_13 : decode cX9_away 13 = .ok (.isub, 1) := by decide +kernel
theorem dX9_away_14 : decode cX9_away 14 = .ok (.ireturn, 1) := by decide +kernel
theorem dX9_toward_0 : decode cX9_toward 0 = .ok (.iload_n 0, 1) := by decide +kernel
theorem dX9_toward_1 : decode cX9_toward 1 = .ok (.iload_n 1, 1) := by decide +kernel
theorem dX9_toward_2 : decode cX9_toward 2 = .ok (.if_icmp .ge 9, 3) := by decide +kernel
theorem dX9_toward_5 : decode cX9_toward 5 = .ok (.iload_n 0, 1) := by decide +kernel
theorem dX9_toward_6 : decode cX9_toward 6 = .ok (.iload_n 2, 1) := by decide +kernel
theorem dX9_toward_7 : decode cX9_toward 7 = .ok (.iadd, 1) := by decide +kernel
theorem dX9_toward_8 : decode cX9_toward 8 = .ok (.goto 6, 3) := by decide +kernel
theorem dX9_toward_11 : decode cX9_toward 11 = .ok (.iload_n 0, 1) := by decide +kernel
theorem dX9_toward_12 : decode cX9_toward 12 = .ok (.iload_n 2, 1) := by decide +kernel
theorem dX9_toward_13 : decode cX9_toward 13 = .ok (.isub, 1) := by decide +kernel
theorem dX9_toward_14 : decode cX9_toward 14 = .ok (.ireturn, 1) := by decide +kernel
theorem dX9_line_0 : decode cX9_line 0 = .ok (.aload_n 0, 1) := by decide +kernel
theorem dX9_line_1 : decode cX9_line 1 = .ok (.iload_n 1, 1) := by decide +kernel
theorem dX9_line_2 : decode cX9_line 2 = .ok (.invokevirtual 112, 3) := by decide +kernel
theorem dX9_line_5 : decode cX9_line 5 = .ok (.ifCond .eq 45, 3) := by decide +kernel
theorem dX9_line_8 : decode cX9_line 8 = .ok (.iload_n 2, 1) := by decide +kernel
theorem dX9_line_9 : decode cX9_line 9 = .ok (.sipush 2000, 3) := by decide +kernel
theorem dX9_line_12 : decode cX9_line 12 = .ok (.invokestatic 116, 3) := by decide +kernel
theorem dX9_line_15 : decode cX9_line 15 = .ok (.ifCond .eq 35, 3) := by decide +kernel
theorem dX9_line_18 : decode cX9_line 18 = .ok (.iload_n 3, 1) := by decide +kernel
theorem dX9_line_19 : decode cX9_line 19 = .ok (.sipush 2000, 3) := by decide +kernel
theorem dX9_line_22 : decode cX9_line 22 = .ok (.invokestatic 116, 3) := by decide +kernel
theorem dX9_line_25 : decode cX9_line 25 = .ok (.ifCond .eq 25, 3) := by decide +kernel
theorem dX9_line_28 : decode cX9_line 28 = .ok (.iload 4, 2) := by decide +kernel
theorem dX9_line_30 : decode cX9_line 30 = .ok (.sipush 2000, 3) := by decide +kernel
theorem dX9_line_33 : decode cX9_line 33 = .ok (.invokestatic 116, 3) := by decide +kernel
theorem dX9_line_36 : decode cX9_line 36 = .ok (.ifCond .eq 14, 3) := by decide +kernel
theorem dX9_line_39 : decode cX9_line 39 = .ok (.iload 5, 2) := by decide +kernel
theorem dX9_line_41 : decode cX9_line 41 = .ok (.sipush 2000, 3) := by decide +kernel
theorem dX9_line_44 : decode cX9_line 44 = .ok (.invokestatic 116, 3) := by decide +kernel
theorem dX9_line_47 : decode cX9_line 47 = .ok (.ifCond .ne 5, 3) := by decide +kernel
theorem dX9_line_50 : decode cX9_line 50 = .ok (.iconst (-1), 1) := by decide +kernel
theorem dX9_line_51 : decode cX9_line 51 = .ok (.ireturn, 1) := by decide +kernel
theorem dX9_line_52 : decode cX9_line 52 = .ok (.iload_n 2, 1) := by decide +kernel
theorem dX9_line_53 : decode cX9_line 53 = .ok (.iload 4, 2) := by decide +kernel
theorem dX9_line_55 : decode cX9_line 55 = .ok (.invokestatic 119, 3) := by decide +kernel
theorem dX9_line_58 : decode cX9_line 58 = .ok (.istore 6, 2) := by decide +kernel
theorem dX9_line_60 : decode cX9_line 60 = .ok (.iload_n 3, 1) := by decide +kernel
theorem dX9_line_61 : decode cX9_line 61 = .ok (.iload 5, 2) := by decide +kernel
theorem dX9_line_63 : decode cX9_line 63 = .ok (.invokestatic 119, 3) := by decide +kernel
theorem dX9_line_66 : decode cX9_line 66 = .ok (.istore 7, 2) := by decide +kernel
theorem dX9_line_68 : decode cX9_line 68 = .ok (.iload 6, 2) := by decide +kernel
theorem dX9_line_70 : decode cX9_line 70 = .ok (.iload 7, 2) := by decide +kernel
theorem dX9_line_72 : decode cX9_line 72 = .ok (.if_icmp .ge 8, 3) := by decide +kernel
theorem dX9_line_75 : decode cX9_line 75 = .ok (.iload 7, 2) := by decide +kernel
theorem dX9_line_77 : decode cX9_line 77 = .ok (.goto 5, 3) := by decide +kernel
theorem dX9_line_80 : decode cX9_line 80 = .ok (.iload 6, 2) := by decide +kernel
theorem dX9_line_82 : decode cX9_line 82 = .ok (.istore 8, 2) := by decide +kernel
theorem dX9_line_84 : decode cX9_line 84 = .ok (.iload 6, 2) := by decide +kernel
theorem dX9_line_86 : decode cX9_line 86 = .ok (.iload 7, 2) := by decide +kernel
theorem dX9_line_88 : decode cX9_line 88 = .ok (.if_icmp .ge 8, 3) := by decide +kernel
theorem dX9_line_91 : decode cX9_line 91 = .ok (.iload 6, 2) := by decide +kernel
theorem dX9_line_93 : decode cX9_line 93 = .ok (.goto 5, 3) := by decide +kernel
theorem dX9_line_96 : decode cX9_line 96 = .ok (.iload 7, 2) := by decide +kernel
theorem dX9_line_98 : decode cX9_line 98 = .ok (.istore 9, 2) := by decide +kernel
theorem dX9_line_100 : decode cX9_line 100 = .ok (.aload_n 0, 1) := by decide +kernel
theorem dX9_line_101 : decode cX9_line 101 = .ok (.invokevirtual 122, 3) := by decide +kernel
theorem dX9_line_104 : decode cX9_line 104 = .ok (.iconst 0, 1) := by decide +kernel
theorem dX9_line_105 : decode cX9_line 105 = .ok (.istore 10, 2) := by decide +kernel
theorem dX9_line_107 : decode cX9_line 107 = .ok (.iload 10, 2) := by decide +kernel
theorem dX9_line_109 : decode cX9_line 109 = .ok (.iload 8, 2) := by decide +kernel
theorem dX9_line_111 : decode cX9_line 111 = .ok (.if_icmp .gt 123, 3) := by decide +kernel
theorem dX9_line_114 : decode cX9_line 114 = .ok (.iload 8, 2) := by decide +kernel
theorem dX9_line_116 : decode cX9_line 116 = .ok (.ifCond .ne 7, 3) := by decide +kernel
theorem dX9_line_119 : decode cX9_line 119 = .ok (.iconst 0, 1) := by decide +kernel
theorem dX9_line_120 : decode cX9_line 120 = .ok (.goto 20, 3) := by decide +kernel
theorem dX9_line_123 : decode cX9_line 123 = .ok (.iconst 2, 1) := by decide +kernel
theorem dX9_line_124 : decode cX9_line 124 = .ok (.iload 10, 2) := by decide +kernel
theorem dX9_line_126 : decode cX9_line 126 = .ok (.imul, 1) := by decide +kernel
theorem dX9_line_127 : decode cX9_line 127 = .ok (.iload 9, 2) := by decide +kernel
theorem dX9_line_129 : decode cX9_line 129 = .ok (.imul, 1) := by decide +kernel
theorem dX9_line_130 : decode cX9_line 130 = .ok (.iload 8, 2) := by decide +kernel
theorem dX9_line_132 : decode cX9_line 132 = .ok (.iadd, 1) := by decide +kernel
theorem dX9_line_133 : decode cX9_line 133 = .ok (.iconst 1, 1) := by decide +kernel
theorem dX9_line_134 : decode cX9_line 134 = .ok (.isub, 1) := by decide +kernel
theorem dX9_line_135 : decode cX9_line 135 = .ok (.iconst 2, 1) := by decide +kernel
theorem dX9_line_136 : decode cX9_line 136 = .ok (.iload 8, 2) := by decide +kernel
theorem dX9_line_138 : decode cX9_line 138 = .ok (.imul, 1) := by decide +kernel
theorem dX9_line_139 : decode cX9_line 139 = .ok (.idiv, 1) := by decide +kernel
theorem dX9_line_140 : decode cX9_line 140 = .ok (.istore 11, 2) := by decide +kernel
theorem dX9_line_142 : decode cX9_line 142 = .ok (.aload_n 0, 1) := by decide +kernel
theorem dX9_line_143 : decode cX9_line 143 = .ok (.getfield 30, 3) := by decide +kernel
theorem dX9_line_146 : decode cX9_line 146 = .ok (.iload 10, 2) := by decide +kernel
theorem dX9_line_148 : decode cX9_line 148 = .ok (.bipush 15, 2) := by decide +kernel
theorem dX9_line_150 : decode cX9_line 150 = .ok (.iand, 1) := by decide +kernel
theorem dX9_line_151 : decode cX9_line 151 = .ok (.ishr, 1) := by decide +kernel
theorem dX9_line_152 : decode cX9_line 152 = .ok (.iconst 1, 1) := by decide +kernel
theorem dX9_line_153 : decode cX9_line 153 = .ok (.iand, 1) := by decide +kernel
theorem dX9_line_154 : decode cX9_line 154 = .ok (.ifCond .ne 6, 3) := by decide +kernel
theorem dX9_line_157 : decode cX9_line 157 = .ok (.goto 71, 3) := by decide +kernel
theorem dX9_line_160 : decode cX9_line 160 = .ok (.iload 6, 2) := by decide +kernel
theorem dX9_line_162 : decode cX9_line 162 = .ok (.iload 7, 2) := by decide +kernel
theorem dX9_line_164 : decode cX9_line 164 = .ok (.if_icmp .ge 35, 3) := by decide +kernel
theorem dX9_line_167 : decode cX9_line 167 = .ok (.aload_n 0, 1) := by decide +kernel
theorem dX9_line_168 : decode cX9_line 168 = .ok (.iload_n 1, 1) := by decide +kernel
theorem dX9_line_169 : decode cX9_line 169 = .ok (.iload_n 2, 1) := by decide +kernel
theorem dX9_line_170 : decode cX9_line 170 = .ok (.iload 4, 2) := by decide +kernel
theorem dX9_line_172 : decode cX9_line 172 = .ok (.iload 11, 2) := by decide +kernel
theorem dX9_line_174 : decode cX9_line 174 = .ok (.invokestatic 125, 3) := by decide +kernel
theorem dX9_line_177 : decode cX9_line 177 = .ok (.iload_n 3, 1) := by decide +kernel
theorem dX9_line_178 : decode cX9_line 178 = .ok (.iload 5, 2) := by decide +kernel
theorem dX9_line_180 : decode cX9_line 180 = .ok (.iload 10, 2) := by decide +kernel
theorem dX9_line_182 : decode cX9_line 182 = .ok (.invokestatic 125, 3) := by decide +kernel
theorem dX9_line_185 : decode cX9_line 185 = .ok (.aload_n 0, 1) := by decide +kernel
theorem dX9_line_186 : decode cX9_line 186 = .ok (.getfield 19, 3) := by decide +kernel
theorem dX9_line_189 : decode cX9_line 189 = .ok (.aload_n 0, 1) := by decide +kernel
theorem dX9_line_190 : decode cX9_line 190 = .ok (.getfield 26, 3) := by decide +kernel
theorem dX9_line_193 : decode cX9_line 193 = .ok (.invokevirtual 128, 3) := by decide +kernel
theorem dX9_line_196 : decode cX9_line 196 = .ok (.goto 32, 3) := by decide +kernel
theorem dX9_line_199 : decode cX9_line 199 = .ok (.aload_n 0, 1) := by decide +kernel
theorem dX9_line_200 : decode cX9_line 200 = .ok (.iload_n 1, 1) := by decide +kernel
theorem dX9_line_201 : decode cX9_line 201 = .ok (.iload_n 2, 1) := by decide +kernel
theorem dX9_line_202 : decode cX9_line 202 = .ok (.iload 4, 2) := by decide +kernel
theorem dX9_line_204 : decode cX9_line 204 = .ok (.iload 10, 2) := by decide +kernel
theorem dX9_line_206 : decode cX9_line 206 = .ok (.invokestatic 125, 3) := by decide +kernel
theorem dX9_line_209 : decode cX9_line 209 = .ok (.iload_n 3, 1) := by decide +kernel
theorem dX9_line_210 : decode cX9_line 210 = .ok (.iload 5, 2) := by decide +kernel
theorem dX9_line_212 : decode cX9_line 212 = .ok (.iload 11, 2) := by decide +kernel
theorem dX9_line_214 : decode cX9_line 214 = .ok (.invokestatic 125, 3) := by decide +kernel
theorem dX9_line_217 : decode cX9_line 217 = .ok (.aload_n 0, 1) := by decide +kernel
theorem dX9_line_218 : decode cX9_line 218 = .ok (.getfield 19, 3) := by decide +kernel
theorem dX9_line_221 : decode cX9_line 221 = .ok (.aload_n 0, 1) := by decide +kernel
theorem dX9_line_222 : decode cX9_line 222 = .ok (.getfield 26, 3) := by decide +kernel
theorem dX9_line_225 : decode cX9_line 225 = .ok (.invokevirtual 128, 3) := by decide +kernel
theorem dX9_line_228 : decode cX9_line 228 = .ok (.iinc 10 1, 3) := by decide +kernel
theorem dX9_line_231 : decode cX9_line 231 = .ok (.goto (-124), 3) := by decide +kernel
theorem dX9_line_234 : decode cX9_line 234 = .ok (.aload_n 0, 1) := by decide +kernel
theorem dX9_line_235 : decode cX9_line 235 = .ok (.iload_n 1, 1) := by decide +kernel
theorem dX9_line_236 : decode cX9_line 236 = .ok (.invokevirtual 132, 3) := by decide +kernel
theorem dX9_line_239 : decode cX9_line 239 = .ok (.ireturn, 1) := by decide +kernel
theorem dX9_root_0 : decode cX9_root 0 = .ok (.iconst 0, 1) := by decide +kernel
theorem dX9_root_1 : decode cX9_root 1 = .ok (.istore_n 1, 1) := by decide +kernel
theorem dX9_root_2 : decode cX9_root 2 = .ok (.iconst 2, 1) := by decide +kernel
theorem dX9_root_3 : decode cX9_root 3 = .ok (.iload_n 1, 1) := by decide +kernel
theorem dX9_root_4 : decode cX9_root 4 = .ok (.imul, 1) := by decide +kernel
theorem dX9_root_5 : decode cX9_root 5 = .ok (.iconst 1, 1) := by decide +kernel
theorem dX9_root_6 : decode cX9_root 6 = .ok (.iadd, 1) := by decide +kernel
theorem dX9_root_7 : decode cX9_root 7 = .ok (.iconst 2, 1) := by decide +kernel
theorem dX9_root_8 : decode cX9_root 8 = .ok (.iload_n 1, 1) := by decide +kernel
theorem dX9_root_9 : decode cX9_root 9 = .ok (.imul, 1) := by decide +kernel
theorem dX9_root_10 : decode cX9_root 10 = .ok (.iconst 1, 1) := by decide +kernel
theorem dX9_root_11 : decode cX9_root 11 = .ok (.iadd, 1) := by decide +kernel
theorem dX9_root_12 : decode cX9_root 12 = .ok (.imul, 1) := by decide +kernel
theorem dX9_root_13 : decode cX9_root 13 = .ok (.iconst 4, 1) := by decide +kernel
theorem dX9_root_14 : decode cX9_root 14 = .ok (.iload_n 0, 1) := by decide +kernel
theorem dX9_root_15 : decode cX9_root 15 = .ok (.imul, 1) := by decide +kernel
theorem dX9_root_16 : decode cX9_root 16 = .ok (.if_icmp .ge 10, 3) := by decide +kernel
theorem dX9_root_19 : decode cX9_root 19 = .ok (.iload_n 1, 1) := by decide +kernel
theorem dX9_root_20 : decode cX9_root 20 = .ok (.iconst 1, 1) := by decide +kernel
theorem dX9_root_21 : decode cX9_root 21 = .ok (.iadd, 1) := by decide +kernel
theorem dX9_root_22 : decode cX9_root 22 = .ok (.istore_n 1, 1) := by decide +kernel
theorem dX9_root_23 : decode cX9_root 23 = .ok (.goto (-21), 3) := by decide +kernel
theorem dX9_root_26 : decode cX9_root 26 = .ok (.iload_n 1, 1) := by decide +kernel
theorem dX9_root_27 : decode cX9_root 27 = .ok (.ireturn, 1) := by decide +kernel
theorem dX9_circle_0 : decode cX9_circle 0 = .ok (.aload_n 0, 1) := by decide +kernel
theorem dX9_circle_1 : decode cX9_circle 1 = .ok (.iload_n 1, 1) := by decide +kernel
theorem dX9_circle_2 : decode cX9_circle 2 = .ok (.invokevirtual 112, 3) := by decide +kernel
theorem dX9_circle_5 : decode cX9_circle 5 = .ok (.ifCond .eq 36, 3) := by decide +kernel
theorem dX9_circle_8 : decode cX9_circle 8 = .ok (.iload_n 2, 1) := by decide +kernel
theorem dX9_circle_9 : decode cX9_circle 9 = .ok (.sipush 2000, 3) := by decide +kernel
theorem dX9_circle_12 : decode cX9_circle 12 = .ok (.invokestatic 116, 3) := by decide +kernel
theorem dX9_circle_15 : decode cX9_circle 15 = .ok (.ifCond .eq 26, 3) := by decide +kernel
theorem dX9_circle_18 : decode cX9_circle 18 = .ok (.iload_n 3, 1) := by decide +kernel
theorem dX9_circle_19 : decode cX9_circle 19 = .ok (.sipush 2000, 3) := by decide +kernel
theorem dX9_circle_22 : decode cX9_circle 22 = .ok (.invokestatic 116, 3) := by decide +kernel
theorem dX9_circle_25 : decode cX9_circle 25 = .ok (.ifCond .eq 16, 3) := by decide +kernel
theorem dX9_circle_28 : decode cX9_circle 28 = .ok (.iload 4, 2) := by decide +kernel
theorem dX9_circle_30 : decode cX9_circle 30 = .ok (.ifCond .lt 11, 3) := by decide +kernel
theorem dX9_circle_33 : decode cX9_circle 33 = .ok (.iload 4, 2) := by decide +kernel
theorem dX9_circle_35 : decode cX9_circle 35 = .ok (.sipush 500, 3) := by decide +kernel
theorem dX9_circle_38 : decode cX9_circle 38 = .ok (.if_icmp .le 5, 3) := by decide +kernel
theorem dX9_circle_41 : decode cX9_circle 41 = .ok (.iconst (-1), 1) := by decide +kernel
theorem dX9_circle_42 : decode cX9_circle 42 = .ok (.ireturn, 1) := by decide +kernel
theorem dX9_circle_43 : decode cX9_circle 43 = .ok (.aload_n 0, 1) := by decide +kernel
theorem dX9_circle_44 : decode cX9_circle 44 = .ok (.invokevirtual 122, 3) := by decide +kernel
theorem dX9_circle_47 : decode cX9_circle 47 = .ok (.iconst 0, 1) := by decide +kernel
theorem dX9_circle_48 : decode cX9_circle 48 = .ok (.istore 5, 2) := by decide +kernel
theorem dX9_circle_50 : decode cX9_circle 50 = .ok (.iload 5, 2) := by decide +kernel
theorem dX9_circle_52 : decode cX9_circle 52 = .ok (.iload 5, 2) := by decide +kernel
theorem dX9_circle_54 : decode cX9_circle 54 = .ok (.imul, 1) := by decide +kernel
theorem dX9_circle_55 : decode cX9_circle 55 = .ok (.iload 4, 2) := by decide +kernel
theorem dX9_circle_57 : decode cX9_circle 57 = .ok (.iload 4, 2) := by decide +kernel
theorem dX9_circle_59 : decode cX9_circle 59 = .ok (.imul, 1) := by decide +kernel
theorem dX9_circle_60 : decode cX9_circle 60 = .ok (.if_icmp .gt 143, 3) := by decide +kernel
theorem dX9_circle_63 : decode cX9_circle 63 = .ok (.iload 5, 2) := by decide +kernel
theorem dX9_circle_65 : decode cX9_circle 65 = .ok (.iload 4, 2) := by decide +kernel
theorem dX9_circle_67 : decode cX9_circle 67 = .ok (.iload 4, 2) := by decide +kernel
theorem dX9_circle_69 : decode cX9_circle 69 = .ok (.imul, 1) := by decide +kernel
theorem dX9_circle_70 : decode cX9_circle 70 = .ok (.iload 5, 2) := by decide +kernel
theorem dX9_circle_72 : decode cX9_circle 72 = .ok (.iload 5, 2) := by decide +kernel
theorem dX9_circle_74 : decode cX9_circle 74 = .ok (.imul, 1) := by decide +kernel
theorem dX9_circle_75 : decode cX9_circle 75 = .ok (.isub, 1) := by decide +kernel
theorem dX9_circle_76 : decode cX9_circle 76 = .ok (.invokestatic 135, 3) := by decide +kernel
theorem dX9_circle_79 : decode cX9_circle 79 = .ok (.if_icmp .gt 124, 3) := by decide +kernel
theorem dX9_circle_82 : decode cX9_circle 82 = .ok (.iload 4, 2) := by decide +kernel
theorem dX9_circle_84 : decode cX9_circle 84 = .ok (.iload 4, 2) := by decide +kernel
theorem dX9_circle_86 : decode cX9_circle 86 = .ok (.imul, 1) := by decide +kernel
theorem dX9_circle_87 : decode cX9_circle 87 = .ok (.iload 5, 2) := by decide +kernel
theorem dX9_circle_89 : decode cX9_circle 89 = .ok (.iload 5, 2) := by decide +kernel
theorem dX9_circle_91 : decode cX9_circle 91 = .ok (.imul, 1) := by decide +kernel
theorem dX9_circle_92 : decode cX9_circle 92 = .ok (.isub, 1) := by decide +kernel
theorem dX9_circle_93 : decode cX9_circle 93 = .ok (.invokestatic 135, 3) := by decide +kernel
theorem dX9_circle_96 : decode cX9_circle 96 = .ok (.istore 6, 2) := by decide +kernel
theorem dX9_circle_98 : decode cX9_circle 98 = .ok (.iconst 0, 1) := by decide +kernel
theorem dX9_circle_99 : decode cX9_circle 99 = .ok (.istore 7, 2) := by decide +kernel
theorem dX9_circle_101 : decode cX9_circle 101 = .ok (.iload 7, 2) := by decide +kernel
theorem dX9_circle_103 : decode cX9_circle 103 = .ok (.iconst 4, 1) := by decide +kernel
theorem dX9_circle_104 : decode cX9_circle 104 = .ok (.if_icmp .ge 90, 3) := by decide +kernel
theorem dX9_circle_107 : decode cX9_circle 107 = .ok (.iload 7, 2) := by decide +kernel
theorem dX9_circle_109 : decode cX9_circle 109 = .ok (.iconst 2, 1) := by decide +kernel
theorem dX9_circle_110 : decode cX9_circle 110 = .ok (.if_icmp .ge 7, 3) := by decide +kernel
theorem dX9_circle_113 : decode cX9_circle 113 = .ok (.iconst 1, 1) := by decide +kernel
theorem dX9_circle_114 : decode cX9_circle 114 = .ok (.goto 4, 3) := by decide +kernel
theorem dX9_circle_117 : decode cX9_circle 117 = .ok (.iconst (-1), 1) := by decide +kernel
theorem dX9_circle_118 : decode cX9_circle 118 = .ok (.istore 8, 2) := by decide +kernel
theorem dX9_circle_120 : decode cX9_circle 120 = .ok (.iload 7, 2) := by decide +kernel
theorem dX9_circle_122 : decode cX9_circle 122 = .ok (.iconst 2, 1) := by decide +kernel
theorem dX9_circle_123 : decode cX9_circle 123 = .ok (.irem, 1) := by decide +kernel
theorem dX9_circle_124 : decode cX9_circle 124 = .ok (.ifCond .ne 7, 3) := by decide +kernel
theorem dX9_circle_127 : decode cX9_circle 127 = .ok (.iconst 1, 1) := by decide +kernel
theorem dX9_circle_128 : decode cX9_circle 128 = .ok (.goto 4, 3) := by decide +kernel
theorem dX9_circle_131 : decode cX9_circle 131 = .ok (.iconst (-1), 1) := by decide +kernel
theorem dX9_circle_132 : decode cX9_circle 132 = .ok (.istore 9, 2) := by decide +kernel
theorem dX9_circle_134 : decode cX9_circle 134 = .ok (.aload_n 0, 1) := by decide +kernel
theorem dX9_circle_135 : decode cX9_circle 135 = .ok (.iload_n 1, 1) := by decide +kernel
theorem dX9_circle_136 : decode cX9_circle 136 = .ok (.iload_n 2, 1) := by decide +kernel
theorem dX9_circle_137 : decode cX9_circle 137 = .ok (.iload 8, 2) := by decide +kernel
theorem dX9_circle_139 : decode cX9_circle 139 = .ok (.iload 5, 2) := by decide +kernel
theorem dX9_circle_141 : decode cX9_circle 141 = .ok (.imul, 1) := by decide +kernel
theorem dX9_circle_142 : decode cX9_circle 142 = .ok (.iadd, 1) := by decide +kernel
theorem dX9_circle_143 : decode cX9_circle 143 = .ok (.iload_n 3, 1) := by decide +kernel
theorem dX9_circle_144 : decode cX9_circle 144 = .ok (.iload 9, 2) := by decide +kernel
theorem dX9_circle_146 : decode cX9_circle 146 = .ok (.iload 6, 2) := by decide +kernel
theorem dX9_circle_148 : decode cX9_circle 148 = .ok (.imul, 1) := by decide +kernel
theorem dX9_circle_149 : decode cX9_circle 149 = .ok (.iadd, 1) := by decide +kernel
theorem dX9_circle_150 : decode cX9_circle 150 = .ok (.aload_n 0, 1) := by decide +kernel
theorem dX9_circle_151 : decode cX9_circle 151 = .ok (.getfield 19, 3) := by decide +kernel
theorem dX9_circle_154 : decode cX9_circle 154 = .ok (.aload_n 0, 1) := by decide +kernel
theorem dX9_circle_155 : decode cX9_circle 155 = .ok (.getfield 26, 3) := by decide +kernel
theorem dX9_circle_158 : decode cX9_circle 158 = .ok (.invokevirtual 128, 3) := by decide +kernel
theorem dX9_circle_161 : decode cX9_circle 161 = .ok (.aload_n 0, 1) := by decide +kernel
theorem dX9_circle_162 : decode cX9_circle 162 = .ok (.iload_n 1, 1) := by decide +kernel
theorem dX9_circle_163 : decode cX9_circle 163 = .ok (.iload_n 2, 1) := by decide +kernel
theorem dX9_circle_164 : decode cX9_circle 164 = .ok (.iload 8, 2) := by decide +kernel
theorem dX9_circle_166 : decode cX9_circle 166 = .ok (.iload 6, 2) := by decide +kernel
theorem dX9_circle_168 : decode cX9_circle 168 = .ok (.imul, 1) := by decide +kernel
theorem dX9_circle_169 : decode cX9_circle 169 = .ok (.iadd, 1) := by decide +kernel
theorem dX9_circle_170 : decode cX9_circle 170 = .ok (.iload_n 3, 1) := by decide +kernel
theorem dX9_circle_171 : decode cX9_circle 171 = .ok (.iload 9, 2) := by decide +kernel
theorem dX9_circle_173 : decode cX9_circle 173 = .ok (.iload 5, 2) := by decide +kernel
theorem dX9_circle_175 : decode cX9_circle 175 = .ok (.imul, 1) := by decide +kernel
theorem dX9_circle_176 : decode cX9_circle 176 = .ok (.iadd, 1) := by decide +kernel
theorem dX9_circle_177 : decode cX9_circle 177 = .ok (.aload_n 0, 1) := by decide +kernel
theorem dX9_circle_178 : decode cX9_circle 178 = .ok (.getfield 19, 3) := by decide +kernel
theorem dX9_circle_181 : decode cX9_circle 181 = .ok (.aload_n 0, 1) := by decide +kernel
theorem dX9_circle_182 : decode cX9_circle 182 = .ok (.getfield 26, 3) := by decide +kernel
theorem dX9_circle_185 : decode cX9_circle 185 = .ok (.invokevirtual 128, 3) := by decide +kernel
theorem dX9_circle_188 : decode cX9_circle 188 = .ok (.iinc 7 1, 3) := by decide +kernel
theorem dX9_circle_191 : decode cX9_circle 191 = .ok (.goto (-90), 3) := by decide +kernel
theorem dX9_circle_194 : decode cX9_circle 194 = .ok (.iload 5, 2) := by decide +kernel
theorem dX9_circle_196 : decode cX9_circle 196 = .ok (.iconst 1, 1) := by decide +kernel
theorem dX9_circle_197 : decode cX9_circle 197 = .ok (.iadd, 1) := by decide +kernel
theorem dX9_circle_198 : decode cX9_circle 198 = .ok (.istore 5, 2) := by decide +kernel
theorem dX9_circle_200 : decode cX9_circle 200 = .ok (.goto (-150), 3) := by decide +kernel
theorem dX9_circle_203 : decode cX9_circle 203 = .ok (.aload_n 0, 1) := by decide +kernel
theorem dX9_circle_204 : decode cX9_circle 204 = .ok (.iload_n 1, 1) := by decide +kernel
theorem dX9_circle_205 : decode cX9_circle 205 = .ok (.invokevirtual 132, 3) := by decide +kernel
theorem dX9_circle_208 : decode cX9_circle 208 = .ok (.ireturn, 1) := by decide +kernel
theorem dX9_point_0 : decode cX9_point 0 = .ok (.aload_n 0, 1) := by decide +kernel
theorem dX9_point_1 : decode cX9_point 1 = .ok (.getfield 138, 3) := by decide +kernel
theorem dX9_point_4 : decode cX9_point 4 = .ok (.bipush 48, 2) := by decide +kernel
theorem dX9_point_6 : decode cX9_point 6 = .ok (.if_icmp .eq 23, 3) := by decide +kernel
theorem dX9_point_9 : decode cX9_point 9 = .ok (.iload_n 1, 1) := by decide +kernel
theorem dX9_point_10 : decode cX9_point 10 = .ok (.sipush 4096, 3) := by decide +kernel
theorem dX9_point_13 : decode cX9_point 13 = .ok (.invokestatic 116, 3) := by decide +kernel
theorem dX9_point_16 : decode cX9_point 16 = .ok (.ifCond .eq 13, 3) := by decide +kernel
theorem dX9_point_19 : decode cX9_point 19 = .ok (.iload_n 2, 1) := by decide +kernel
theorem dX9_point_20 : decode cX9_point 20 = .ok (.sipush 4096, 3) := by decide +kernel
theorem dX9_point_23 : decode cX9_point 23 = .ok (.invokestatic 116, 3) := by decide +kernel
theorem dX9_point_26 : decode cX9_point 26 = .ok (.ifCond .ne 5, 3) := by decide +kernel
theorem dX9_point_29 : decode cX9_point 29 = .ok (.iconst (-1), 1) := by decide +kernel
theorem dX9_point_30 : decode cX9_point 30 = .ok (.ireturn, 1) := by decide +kernel
theorem dX9_point_31 : decode cX9_point 31 = .ok (.aload_n 0, 1) := by decide +kernel
theorem dX9_point_32 : decode cX9_point 32 = .ok (.getfield 43, 3) := by decide +kernel
theorem dX9_point_35 : decode cX9_point 35 = .ok (.aload_n 0, 1) := by decide +kernel
theorem dX9_point_36 : decode cX9_point 36 = .ok (.getfield 138, 3) := by decide +kernel
theorem dX9_point_39 : decode cX9_point 39 = .ok (.iconst 2, 1) := by decide +kernel
theorem dX9_point_40 : decode cX9_point 40 = .ok (.iload_n 1, 1) := by decide +kernel
theorem dX9_point_41 : decode cX9_point 41 = .ok (.imul, 1) := by decide +kernel
theorem dX9_point_42 : decode cX9_point 42 = .ok (.iastore, 1) := by decide +kernel
theorem dX9_point_43 : decode cX9_point 43 = .ok (.aload_n 0, 1) := by decide +kernel
theorem dX9_point_44 : decode cX9_point 44 = .ok (.getfield 46, 3) := by decide +kernel
theorem dX9_point_47 : decode cX9_point 47 = .ok (.aload_n 0, 1) := by decide +kernel
theorem dX9_point_48 : decode cX9_point 48 = .ok (.getfield 138, 3) := by decide +kernel
theorem dX9_point_51 : decode cX9_point 51 = .ok (.iconst 2, 1) := by decide +kernel
theorem dX9_point_52 : decode cX9_point 52 = .ok (.iload_n 2, 1) := by decide +kernel
theorem dX9_point_53 : decode cX9_point 53 = .ok (.imul, 1) := by decide +kernel
theorem dX9_point_54 : decode cX9_point 54 = .ok (.iastore, 1) := by decide +kernel
theorem dX9_point_55 : decode cX9_point 55 = .ok (.aload_n 0, 1) := by decide +kernel
theorem dX9_point_56 : decode cX9_point 56 = .ok (.getfield 49, 3) := by decide +kernel
theorem dX9_point_59 : decode cX9_point 59 = .ok (.aload_n 0, 1) := by decide +kernel
theorem dX9_point_60 : decode cX9_point 60 = .ok (.getfield 138, 3) := by decide +kernel
theorem dX9_point_63 : decode cX9_point 63 = .ok (.iload_n 3, 1) := by decide +kernel
theorem dX9_point_64 : decode cX9_point 64 = .ok (.ifCond .ne 10, 3) := by decide +kernel
theorem dX9_point_67 : decode cX9_point 67 = .ok (.aload_n 0, 1) := by decide +kernel
theorem dX9_point_68 : decode cX9_point 68 = .ok (.getfield 138, 3) := by decide +kernel
theorem dX9_point_71 : decode cX9_point 71 = .ok (.ifCond .ne 7, 3) := by decide +kernel
theorem dX9_point_74 : decode cX9_point 74 = .ok (.iconst 1, 1) := by decide +kernel
theorem dX9_point_75 : decode cX9_point 75 = .ok (.goto 4, 3) := by decide +kernel
theorem dX9_point_78 : decode cX9_point 78 = .ok (.iconst 0, 1) := by decide +kernel
theorem dX9_point_79 : decode cX9_point 79 = .ok (.bastore, 1) := by decide +kernel
theorem dX9_point_80 : decode cX9_point 80 = .ok (.aload_n 0, 1) := by decide +kernel
theorem dX9_point_81 : decode cX9_point 81 = .ok (.aload_n 0, 1) := by decide +kernel
theorem dX9_point_82 : decode cX9_point 82 = .ok (.getfield 138, 3) := by decide +kernel
theorem dX9_point_85 : decode cX9_point 85 = .ok (.iconst 1, 1) := by decide +kernel
theorem dX9_point_86 : decode cX9_point 86 = .ok (.iadd, 1) := by decide +kernel
theorem dX9_point_87 : decode cX9_point 87 = .ok (.putfield 138, 3) := by decide +kernel
theorem dX9_point_90 : decode cX9_point 90 = .ok (.aload_n 0, 1) := by decide +kernel
theorem dX9_point_91 : decode cX9_point 91 = .ok (.getfield 138, 3) := by decide +kernel
theorem dX9_point_94 : decode cX9_point 94 = .ok (.ireturn, 1) := by decide +kernel
theorem dX9_clear_0 : decode cX9_clear 0 = .ok (.aload_n 0, 1) := by decide +kernel
theorem dX9_clear_1 : decode cX9_clear 1 = .ok (.iconst 0, 1) := by decide +kernel
theorem dX9_clear_2 : decode cX9_clear 2 = .ok (.putfield 138, 3) := by decide +kernel
theorem dX9_clear_5 : decode cX9_clear 5 = .ok (.return_, 1) := by decide +kernel
theorem dX9_edge_0 : decode cX9_edge 0 = .ok (.lload_n 2, 1) := by decide +kernel
theorem dX9_edge_1 : decode cX9_edge 1 = .ok (.lload 10, 2) := by decide +kernel
theorem dX9_edge_3 : decode cX9_edge 3 = .ok (.lcmp, 1) := by decide +kernel
theorem dX9_edge_4 : decode cX9_edge 4 = .ok (.ifCond .gt 39, 3) := by decide +kernel
theorem dX9_edge_7 : decode cX9_edge 7 = .ok (.lload 10, 2) := by decide +kernel
theorem dX9_edge_9 : decode cX9_edge 9 = .ok (.lload 6, 2) := by decide +kernel
theorem dX9_edge_11 : decode cX9_edge 11 = .ok (.lcmp, 1) := by decide +kernel
theorem dX9_edge_12 : decode cX9_edge 12 = .ok (.ifCond .ge 31, 3) := by decide +kernel
theorem dX9_edge_15 : decode cX9_edge 15 = .ok (.lload 10, 2) := by decide +kernel
theorem dX9_edge_17 : decode cX9_edge 17 = .ok (.lload_n 2, 1) := by decide +kernel
theorem dX9_edge_18 : decode cX9_edge 18 = .ok (.lsub, 1) := by decide +kernel
theorem dX9_edge_19 : decode cX9_edge 19 = .ok (.lload 4, 2) := by decide +kernel
theorem dX9_edge_21 : decode cX9_edge 21 = .ok (.lload_n 0, 1) := by decide +kernel
theorem dX9_edge_22 : decode cX9_edge 22 = .ok (.lsub, 1) := by decide +kernel
theorem dX9_edge_23 : decode cX9_edge 23 = .ok (.lmul, 1) := by decide +kernel
theorem dX9_edge_24 : decode cX9_edge 24 = .ok (.lload 8, 2) := by decide +kernel
theorem dX9_edge_26 : decode cX9_edge 26 = .ok (.lload_n 0, 1) := by decide +kernel
theorem dX9_edge_27 : decode cX9_edge 27 = .ok (.lsub, 1) := by decide +kernel
theorem dX9_edge_28 : decode cX9_edge 28 = .ok (.lload 6, 2) := by decide +kernel
theorem dX9_edge_30 : decode cX9_edge 30 = .ok (.lload_n 2, 1) := by decide +kernel
theorem dX9_edge_31 : decode cX9_edge 31 = .ok (.lsub, 1) := by decide +kernel
theorem dX9_edge_32 : decode cX9_edge 32 = .ok (.lmul, 1) := by decide +kernel
theorem dX9_edge_33 : decode cX9_edge 33 = .ok (.lcmp, 1) := by decide +kernel
theorem dX9_edge_34 : decode cX9_edge 34 = .ok (.ifCond .gt 7, 3) := by decide +kernel
theorem dX9_edge_37 : decode cX9_edge 37 = .ok (.iconst 1, 1) := by decide +kernel
theorem dX9_edge_38 : decode cX9_edge 38 = .ok (.goto 4, 3) := by decide +kernel
theorem dX9_edge_41 : decode cX9_edge 41 = .ok (.iconst 0, 1) := by decide +kernel
theorem dX9_edge_42 : decode cX9_edge 42 = .ok (.ireturn, 1) := by decide +kernel
theorem dX9_edge_43 : decode cX9_edge 43 = .ok (.lload 6, 2) := by decide +kernel
theorem dX9_edge_45 : decode cX9_edge 45 = .ok (.lload 10, 2) := by decide +kernel
theorem dX9_edge_47 : decode cX9_edge 47 = .ok (.lcmp, 1) := by decide +kernel
theorem dX9_edge_48 : decode cX9_edge 48 = .ok (.ifCond .gt 38, 3) := by decide +kernel
theorem dX9_edge_51 : decode cX9_edge 51 = .ok (.lload 10, 2) := by decide +kernel
theorem dX9_edge_53 : decode cX9_edge 53 = .ok (.lload_n 2, 1) := by decide +kernel
theorem dX9_edge_54 : decode cX9_edge 54 = .ok (.lcmp, 1) := by decide +kernel
theorem dX9_edge_55 : decode cX9_edge 55 = .ok (.ifCond .ge 31, 3) := by decide +kernel
theorem dX9_edge_58 : decode cX9_edge 58 = .ok (.lload 10, 2) := by decide +kernel
theorem dX9_edge_60 : decode cX9_edge 60 = .ok (.lload_n 2, 1) := by decide +kernel
theorem dX9_edge_61 : decode cX9_edge 61 = .ok (.lsub, 1) := by decide +kernel
theorem dX9_edge_62 : decode cX9_edge 62 = .ok (.lload 4, 2) := by decide +kernel
theorem dX9_edge_64 : decode cX9_edge 64 = .ok (.lload_n 0, 1) := by decide +kernel
theorem dX9_edge_65 : decode cX9_edge 65 = .ok (.lsub, 1) := by decide +kernel
theorem dX9_edge_66 : decode cX9_edge 66 = .ok (.lmul, 1) := by decide +kernel
theorem dX9_edge_67 : decode cX9_edge 67 = .ok (.lload 8, 2) := by decide +kernel
theorem dX9_edge_69 : decode cX9_edge 69 = .ok (.lload_n 0, 1) := by decide +kernel
theorem dX9_edge_70 : decode cX9_edge 70 = .ok (.lsub, 1) := by decide +kernel
theorem dX9_edge_71 : decode cX9_edge 71 = .ok (.lload 6, 2) := by decide +kernel
theorem dX9_edge_73 : decode cX9_edge 73 = .ok (.lload_n 2, 1) := by decide +kernel
theorem dX9_edge_74 : decode cX9_edge 74 = .ok (.lsub, 1) := by decide +kernel
theorem dX9_edge_75 : decode cX9_edge 75 = .ok (.lmul, 1) := by decide +kernel
theorem dX9_edge_76 : decode cX9_edge 76 = .ok (.lcmp, 1) := by decide +kernel
theorem dX9_edge_77 : decode cX9_edge 77 = .ok (.ifCond .lt 7, 3) := by decide +kernel
theorem dX9_edge_80 : decode cX9_edge 80 = .ok (.iconst (-1), 1) := by decide +kernel
theorem dX9_edge_81 : decode cX9_edge 81 = .ok (.goto 4, 3) := by decide +kernel
theorem dX9_edge_84 : decode cX9_edge 84 = .ok (.iconst 0, 1) := by decide +kernel
theorem dX9_edge_85 : decode cX9_edge 85 = .ok (.ireturn, 1) := by decide +kernel
theorem dX9_edge_86 : decode cX9_edge 86 = .ok (.iconst 0, 1) := by decide +kernel
theorem dX9_edge_87 : decode cX9_edge 87 = .ok (.ireturn, 1) := by decide +kernel
theorem dX9_winding_0 : decode cX9_winding 0 = .ok (.iconst 0, 1) := by decide +kernel
theorem dX9_winding_1 : decode cX9_winding 1 = .ok (.istore 5, 2) := by decide +kernel
theorem dX9_winding_3 : decode cX9_winding 3 = .ok (.iconst 0, 1) := by decide +kernel
theorem dX9_winding_4 : decode cX9_winding 4 = .ok (.istore 6, 2) := by decide +kernel
theorem dX9_winding_6 : decode cX9_winding 6 = .ok (.iconst 0, 1) := by decide +kernel
theorem dX9_winding_7 : decode cX9_winding 7 = .ok (.istore 7, 2) := by decide +kernel
theorem dX9_winding_9 : decode cX9_winding 9 = .ok (.iload 7, 2) := by decide +kernel
theorem dX9_winding_11 : decode cX9_winding 11 = .ok (.aload_n 0, 1) := by decide +kernel
theorem dX9_winding_12 : decode cX9_winding 12 = .ok (.getfield 138, 3) := by decide +kernel
theorem dX9_winding_15 : decode cX9_winding 15 = .ok (.if_icmp .ge 99, 3) := by decide +kernel
theorem dX9_winding_18 : decode cX9_winding 18 = .ok (.aload_n 0, 1) := by decide +kernel
theorem dX9_winding_19 : decode cX9_winding 19 = .ok (.getfield 49, 3) := by decide +kernel
theorem dX9_winding_22 : decode cX9_winding 22 = .ok (.iload 7, 2) := by decide +kernel
theorem dX9_winding_24 : decode cX9_winding 24 = .ok (.baload, 1) := by decide +kernel
theorem dX9_winding_25 : decode cX9_winding 25 = .ok (.ifCond .eq 7, 3) := by decide +kernel
theorem dX9_winding_28 : decode cX9_winding 28 = .ok (.iload 7, 2) := by decide +kernel
theorem dX9_winding_30 : decode cX9_winding 30 = .ok (.istore 6, 2) := by decide +kernel
theorem dX9_winding_32 : decode cX9_winding 32 = .ok (.iload 7, 2) := by decide +kernel
theorem dX9_winding_34 : decode cX9_winding 34 = .ok (.iconst 1, 1) := by decide +kernel
theorem dX9_winding_35 : decode cX9_winding 35 = .ok (.iadd, 1) := by decide +kernel
theorem dX9_winding_36 : decode cX9_winding 36 = .ok (.aload_n 0, 1) := by decide +kernel
theorem dX9_winding_37 : decode cX9_winding 37 = .ok (.getfield 138, 3) := by decide +kernel
theorem dX9_winding_40 : decode cX9_winding 40 = .ok (.if_icmp .eq 15, 3) := by decide +kernel
theorem dX9_winding_43 : decode cX9_winding 43 = .ok (.aload_n 0, 1) := by decide +kernel
theorem dX9_winding_44 : decode cX9_winding 44 = .ok (.getfield 49, 3) := by decide +kernel
theorem dX9_winding_47 : decode cX9_winding 47 = .ok (.iload 7, 2) := by decide +kernel
theorem dX9_winding_49 : decode cX9_winding 49 = .ok (.iconst 1, 1) := by decide +kernel
theorem dX9_winding_50 : decode cX9_winding 50 = .ok (.iadd, 1) := by decide +kernel
theorem dX9_winding_51 : decode cX9_winding 51 = .ok (.baload, 1) := by decide +kernel
theorem dX9_winding_52 : decode cX9_winding 52 = .ok (.ifCond .eq 8, 3) := by decide +kernel
theorem dX9_winding_55 : decode cX9_winding 55 = .ok (.iload 6, 2) := by decide +kernel
theorem dX9_winding_57 : decode cX9_winding 57 = .ok (.goto 7, 3) := by decide +kernel
theorem dX9_winding_60 : decode cX9_winding 60 = .ok (.iload 7, 2) := by decide +kernel
theorem dX9_winding_62 : decode cX9_winding 62 = .ok (.iconst 1, 1) := by decide +kernel
theorem dX9_winding_63 : decode cX9_winding 63 = .ok (.iadd, 1) := by decide +kernel
theorem dX9_winding_64 : decode cX9_winding 64 = .ok (.istore 8, 2) := by decide +kernel
theorem dX9_winding_66 : decode cX9_winding 66 = .ok (.iload 5, 2) := by decide +kernel
theorem dX9_winding_68 : decode cX9_winding 68 = .ok (.aload_n 0, 1) := by decide +kernel
theorem dX9_winding_69 : decode cX9_winding 69 = .ok (.getfield 43, 3) := by decide +kernel
theorem dX9_winding_72 : decode cX9_winding 72 = .ok (.iload 7, 2) := by decide +kernel
theorem dX9_winding_74 : decode cX9_winding 74 = .ok (.iaload, 1) := by decide +kernel
theorem dX9_winding_75 : decode cX9_winding 75 = .ok (.i2l, 1) := by decide +kernel
theorem dX9_winding_76 : decode cX9_winding 76 = .ok (.aload_n 0, 1) := by decide +kernel
theorem dX9_winding_77 : decode cX9_winding 77 = .ok (.getfield 46, 3) := by decide +kernel
theorem dX9_winding_80 : decode cX9_winding 80 = .ok (.iload 7, 2) := by decide +kernel
theorem dX9_winding_82 : decode cX9_winding 82 = .ok (.iaload, 1) := by decide +kernel
theorem dX9_winding_83 : decode cX9_winding 83 = .ok (.i2l, 1) := by decide +kernel
theorem dX9_winding_84 : decode cX9_winding 84 = .ok (.aload_n 0, 1) := by decide +kernel
theorem dX9_winding_85 : decode cX9_winding 85 = .ok (.getfield 43, 3) := by decide +kernel
theorem dX9_winding_88 : decode cX9_winding 88 = .ok (.iload 8, 2) := by decide +kernel
theorem dX9_winding_90 : decode cX9_winding 90 = .ok (.iaload, 1) := by decide +kernel
theorem dX9_winding_91 : decode cX9_winding 91 = .ok (.i2l, 1) := by decide +kernel
theorem dX9_winding_92 : decode cX9_winding 92 = .ok (.aload_n 0, 1) := by decide +kernel
theorem dX9_winding_93 : decode cX9_winding 93 = .ok (.getfield 46, 3) := by decide +kernel
theorem dX9_winding_96 : decode cX9_winding 96 = .ok (.iload 8, 2) := by decide +kernel
theorem dX9_winding_98 : decode cX9_winding 98 = .ok (.iaload, 1) := by decide +kernel
theorem dX9_winding_99 : decode cX9_winding 99 = .ok (.i2l, 1) := by decide +kernel
theorem dX9_winding_100 : decode cX9_winding 100 = .ok (.lload_n 1, 1) := by decide +kernel
theorem dX9_winding_101 : decode cX9_winding 101 = .ok (.lload_n 3, 1) := by decide +kernel
theorem dX9_winding_102 : decode cX9_winding 102 = .ok (.invokestatic 141, 3) := by decide +kernel
theorem dX9_winding_105 : decode cX9_winding 105 = .ok (.iadd, 1) := by decide +kernel
theorem dX9_winding_106 : decode cX9_winding 106 = .ok (.istore 5, 2) := by decide +kernel
theorem dX9_winding_108 : decode cX9_winding 108 = .ok (.iinc 7 1, 3) := by decide +kernel
theorem dX9_winding_111 : decode cX9_winding 111 = .ok (.goto (-102), 3) := by decide +kernel
theorem dX9_winding_114 : decode cX9_winding 114 = .ok (.iload 5, 2) := by decide +kernel
theorem dX9_winding_116 : decode cX9_winding 116 = .ok (.ireturn, 1) := by decide +kernel
theorem dX9_isInside_0 : decode cX9_isInside 0 = .ok (.aload_n 0, 1) := by decide +kernel
theorem dX9_isInside_1 : decode cX9_isInside 1 = .ok (.lload_n 1, 1) := by decide +kernel
theorem dX9_isInside_2 : decode cX9_isInside 2 = .ok (.lload_n 3, 1) := by decide +kernel
theorem dX9_isInside_3 : decode cX9_isInside 3 = .ok (.invokevirtual 145, 3) := by decide +kernel
theorem dX9_isInside_6 : decode cX9_isInside 6 = .ok (.istore 6, 2) := by decide +kernel
theorem dX9_isInside_8 : decode cX9_isInside 8 = .ok (.iload 5, 2) := by decide +kernel
theorem dX9_isInside_10 : decode cX9_isInside 10 = .ok (.ifCond .ne 19, 3) := by decide +kernel
theorem dX9_isInside_13 : decode cX9_isInside 13 = .ok (.iload 6, 2) := by decide +kernel
theorem dX9_isInside_15 : decode cX9_isInside 15 = .ok (.iconst 1, 1) := by decide +kernel
theorem dX9_isInside_16 : decode cX9_isInside 16 = .ok (.iand, 1) := by decide +kernel
theorem dX9_isInside_17 : decode cX9_isInside 17 = .ok (.iconst 1, 1) := by decide +kernel
theorem dX9_isInside_18 : decode cX9_isInside 18 = .ok (.if_icmp .ne 7, 3) := by decide +kernel
theorem dX9_isInside_21 : decode cX9_isInside 21 = .ok (.iconst 1, 1) := by decide +kernel
theorem dX9_isInside_22 : decode cX9_isInside 22 = .ok (.goto 17, 3) := by decide +kernel
theorem dX9_isInside_25 : decode cX9_isInside 25 = .ok (.iconst 0, 1) := by decide +kernel
theorem dX9_isInside_26 : decode cX9_isInside 26 = .ok (.goto 13, 3) := by decide +kernel
theorem dX9_isInside_29 : decode cX9_isInside 29 = .ok (.iload 6, 2) := by decide +kernel
theorem dX9_isInside_31 : decode cX9_isInside 31 = .ok (.ifCond .eq 7, 3) := by decide +kernel
theorem dX9_isInside_34 : decode cX9_isInside 34 = .ok (.iconst 1, 1) := by decide +kernel
theorem dX9_isInside_35 : decode cX9_isInside 35 = .ok (.goto 4, 3) := by decide +kernel
theorem dX9_isInside_38 : decode cX9_isInside 38 = .ok (.iconst 0, 1) := by decide +kernel
theorem dX9_isInside_39 : decode cX9_isInside 39 = .ok (.ireturn, 1) := by decide +kernel
theorem dX9_inside_0 : decode cX9_inside 0 = .ok (.iload_n 3, 1) := by decide +kernel
theorem dX9_inside_1 : decode cX9_inside 1 = .ok (.ifCond .lt 8, 3) := by decide +kernel
theorem dX9_inside_4 : decode cX9_inside 4 = .ok (.iload_n 3, 1) := by decide +kernel
theorem dX9_inside_5 : decode cX9_inside 5 = .ok (.iconst 1, 1) := by decide +kernel
theorem dX9_inside_6 : decode cX9_inside 6 = .ok (.if_icmp .le 5, 3) := by decide +kernel
theorem dX9_inside_9 : decode cX9_inside 9 = .ok (.iconst (-1), 1) := by decide +kernel
theorem dX9_inside_10 : decode cX9_inside 10 = .ok (.ireturn, 1) := by decide +kernel
theorem dX9_inside_11 : decode cX9_inside 11 = .ok (.aload_n 0, 1) := by decide +kernel
theorem dX9_inside_12 : decode cX9_inside 12 = .ok (.iload_n 1, 1) := by decide +kernel
theorem dX9_inside_13 : decode cX9_inside 13 = .ok (.i2l, 1) := by decide +kernel
theorem dX9_inside_14 : decode cX9_inside 14 = .ok (.iload_n 2, 1) := by decide +kernel
theorem dX9_inside_15 : decode cX9_inside 15 = .ok (.i2l, 1) := by decide +kernel
theorem dX9_inside_16 : decode cX9_inside 16 = .ok (.iload_n 3, 1) := by decide +kernel
theorem dX9_inside_17 : decode cX9_inside 17 = .ok (.invokevirtual 149, 3) := by decide +kernel
theorem dX9_inside_20 : decode cX9_inside 20 = .ok (.ifCond .eq 7, 3) := by decide +kernel
theorem dX9_inside_23 : decode cX9_inside 23 = .ok (.iconst 1, 1) := by decide +kernel
theorem dX9_inside_24 : decode cX9_inside 24 = .ok (.goto 4, 3) := by decide +kernel
theorem dX9_inside_27 : decode cX9_inside 27 = .ok (.iconst 0, 1) := by decide +kernel
theorem dX9_inside_28 : decode cX9_inside 28 = .ok (.ireturn, 1) := by decide +kernel
theorem dX9_samples_0 : decode cX9_samples 0 = .ok (.iconst 0, 1) := by decide +kernel
theorem dX9_samples_1 : decode cX9_samples 1 = .ok (.istore 4, 2) := by decide +kernel
theorem dX9_samples_3 : decode cX9_samples 3 = .ok (.iconst 0, 1) := by decide +kernel
theorem dX9_samples_4 : decode cX9_samples 4 = .ok (.istore 5, 2) := by decide +kernel
theorem dX9_samples_6 : decode cX9_samples 6 = .ok (.iload 5, 2) := by decide +kernel
theorem dX9_samples_8 : decode cX9_samples 8 = .ok (.bipush 16, 2) := by decide +kernel
theorem dX9_samples_10 : decode cX9_samples 10 = .ok (.if_icmp .ge 57, 3) := by decide +kernel
theorem dX9_samples_13 : decode cX9_samples 13 = .ok (.iload 4, 2) := by decide +kernel
theorem dX9_samples_15 : decode cX9_samples 15 = .ok (.aload_n 0, 1) := by decide +kernel
theorem dX9_samples_16 : decode cX9_samples 16 = .ok (.bipush 32, 2) := by decide +kernel
theorem dX9_samples_18 : decode cX9_samples 18 = .ok (.iload_n 1, 1) := by decide +kernel
theorem dX9_samples_19 : decode cX9_samples 19 = .ok (.imul, 1) := by decide +kernel
theorem dX9_samples_20 : decode cX9_samples 20 = .ok (.bipush 8, 2) := by decide +kernel
theorem dX9_samples_22 : decode cX9_samples 22 = .ok (.iload 5, 2) := by decide +kernel
theorem dX9_samples_24 : decode cX9_samples 24 = .ok (.iconst 4, 1) := by decide +kernel
theorem dX9_samples_25 : decode cX9_samples 25 = .ok (.irem, 1) := by decide +kernel
theorem dX9_samples_26 : decode cX9_samples 26 = .ok (.imul, 1) := by decide +kernel
theorem dX9_samples_27 : decode cX9_samples 27 = .ok (.iadd, 1) := by decide +kernel
theorem dX9_samples_28 : decode cX9_samples 28 = .ok (.iconst 4, 1) := by decide +kernel
theorem dX9_samples_29 : decode cX9_samples 29 = .ok (.iadd, 1) := by decide +kernel
theorem dX9_samples_30 : decode cX9_samples 30 = .ok (.i2l, 1) := by decide +kernel
theorem dX9_samples_31 : decode cX9_samples 31 = .ok (.bipush 32, 2) := by decide +kernel
theorem dX9_samples_33 : decode cX9_samples 33 = .ok (.iload_n 2, 1) := by decide +kernel
theorem dX9_samples_34 : decode cX9_samples 34 = .ok (.imul, 1) := by decide +kernel
theorem dX9_samples_35 : decode cX9_samples 35 = .ok (.bipush 8, 2) := by decide +kernel
theorem dX9_samples_37 : decode cX9_samples 37 = .ok (.iload 5, 2) := by decide +kernel
theorem dX9_samples_39 : decode cX9_samples 39 = .ok (.iconst 4, 1) := by decide +kernel
theorem dX9_samples_40 : decode cX9_samples 40 = .ok (.idiv, 1) := by decide +kernel
theorem dX9_samples_41 : decode cX9_samples 41 = .ok (.imul, 1) := by decide +kernel
theorem dX9_samples_42 : decode cX9_samples 42 = .ok (.iadd, 1) := by decide +kernel
theorem dX9_samples_43 : decode cX9_samples 43 = .ok (.iconst 4, 1) := by decide +kernel
theorem dX9_samples_44 : decode cX9_samples 44 = .ok (.iadd, 1) := by decide +kernel
theorem dX9_samples_45 : decode cX9_samples 45 = .ok (.i2l, 1) := by decide +kernel
theorem dX9_samples_46 : decode cX9_samples 46 = .ok (.iload_n 3, 1) := by decide +kernel
theorem dX9_samples_47 : decode cX9_samples 47 = .ok (.invokevirtual 149, 3) := by decide +kernel
theorem dX9_samples_50 : decode cX9_samples 50 = .ok (.ifCond .eq 7, 3) := by decide +kernel
theorem dX9_samples_53 : decode cX9_samples 53 = .ok (.iconst 1, 1) := by decide +kernel
theorem dX9_samples_54 : decode cX9_samples 54 = .ok (.goto 4, 3) := by decide +kernel
theorem dX9_samples_57 : decode cX9_samples 57 = .ok (.iconst 0, 1) := by decide +kernel
theorem dX9_samples_58 : decode cX9_samples 58 = .ok (.iadd, 1) := by decide +kernel
theorem dX9_samples_59 : decode cX9_samples 59 = .ok (.istore 4, 2) := by decide +kernel
theorem dX9_samples_61 : decode cX9_samples 61 = .ok (.iinc 5 1, 3) := by decide +kernel
theorem dX9_samples_64 : decode cX9_samples 64 = .ok (.goto (-58), 3) := by decide +kernel
theorem dX9_samples_67 : decode cX9_samples 67 = .ok (.iload 4, 2) := by decide +kernel
theorem dX9_samples_69 : decode cX9_samples 69 = .ok (.ireturn, 1) := by decide +kernel
theorem dX9_fill_0 : decode cX9_fill 0 = .ok (.aload_n 0, 1) := by decide +kernel
theorem dX9_fill_1 : decode cX9_fill 1 = .ok (.iload_n 1, 1) := by decide +kernel
theorem dX9_fill_2 : decode cX9_fill 2 = .ok (.invokevirtual 112, 3) := by decide +kernel
theorem dX9_fill_5 : decode cX9_fill 5 = .ok (.ifCond .eq 12, 3) := by decide +kernel
theorem dX9_fill_8 : decode cX9_fill 8 = .ok (.iload_n 2, 1) := by decide +kernel
theorem dX9_fill_9 : decode cX9_fill 9 = .ok (.ifCond .lt 8, 3) := by decide +kernel
theorem dX9_fill_12 : decode cX9_fill 12 = .ok (.iload_n 2, 1) := by decide +kernel
theorem dX9_fill_13 : decode cX9_fill 13 = .ok (.iconst 1, 1) := by decide +kernel
theorem dX9_fill_14 : decode cX9_fill 14 = .ok (.if_icmp .le 5, 3) := by decide +kernel
theorem dX9_fill_17 : decode cX9_fill 17 = .ok (.iconst (-1), 1) := by decide +kernel
theorem dX9_fill_18 : decode cX9_fill 18 = .ok (.ireturn, 1) := by decide +kernel
theorem dX9_fill_19 : decode cX9_fill 19 = .ok (.aload_n 0, 1) := by decide +kernel
theorem dX9_fill_20 : decode cX9_fill 20 = .ok (.invokevirtual 122, 3) := by decide +kernel
theorem dX9_fill_23 : decode cX9_fill 23 = .ok (.iconst 0, 1) := by decide +kernel
theorem dX9_fill_24 : decode cX9_fill 24 = .ok (.istore 4, 2) := by decide +kernel
theorem dX9_fill_26 : decode cX9_fill 26 = .ok (.iload 4, 2) := by decide +kernel
theorem dX9_fill_28 : decode cX9_fill 28 = .ok (.aload_n 0, 1) := by decide +kernel
theorem dX9_fill_29 : decode cX9_fill 29 = .ok (.getfield 13, 3) := by decide +kernel
theorem dX9_fill_32 : decode cX9_fill 32 = .ok (.iload_n 1, 1) := by decide +kernel
theorem dX9_fill_33 : decode cX9_fill 33 = .ok (.iaload, 1) := by decide +kernel
theorem dX9_fill_34 : decode cX9_fill 34 = .ok (.if_icmp .ge 120, 3) := by decide +kernel
theorem dX9_fill_37 : decode cX9_fill 37 = .ok (.iconst 0, 1) := by decide +kernel
theorem dX9_fill_38 : decode cX9_fill 38 = .ok (.istore 5, 2) := by decide +kernel
theorem dX9_fill_40 : decode cX9_fill 40 = .ok (.iload 5, 2) := by decide +kernel
theorem dX9_fill_42 : decode cX9_fill 42 = .ok (.aload_n 0, 1) := by decide +kernel
theorem dX9_fill_43 : decode cX9_fill 43 = .ok (.getfield 7, 3) := by decide +kernel
theorem dX9_fill_46 : decode cX9_fill 46 = .ok (.iload_n 1, 1) := by decide +kernel
theorem dX9_fill_47 : decode cX9_fill 47 = .ok (.iaload, 1) := by decide +kernel
theorem dX9_fill_48 : decode cX9_fill 48 = .ok (.if_icmp .ge 100, 3) := by decide +kernel
theorem dX9_fill_51 : decode cX9_fill 51 = .ok (.iload_n 3, 1) := by decide +kernel
theorem dX9_fill_52 : decode cX9_fill 52 = .ok (.ifCond .eq 47, 3) := by decide +kernel
theorem dX9_fill_55 : decode cX9_fill 55 = .ok (.aload_n 0, 1) := by decide +kernel
theorem dX9_fill_56 : decode cX9_fill 56 = .ok (.iload 5, 2) := by decide +kernel
theorem dX9_fill_58 : decode cX9_fill 58 = .ok (.iload 4, 2) := by decide +kernel
theorem dX9_fill_60 : decode cX9_fill 60 = .ok (.iload_n 2, 1) := by decide +kernel
theorem dX9_fill_61 : decode cX9_fill 61 = .ok (.invokevirtual 153, 3) := by decide +kernel
theorem dX9_fill_64 : decode cX9_fill 64 = .ok (.istore 6, 2) := by decide +kernel
theorem dX9_fill_66 : decode cX9_fill 66 = .ok (.iload 6, 2) := by decide +kernel
theorem dX9_fill_68 : decode cX9_fill 68 = .ok (.ifCond .le 28, 3) := by decide +kernel
theorem dX9_fill_71 : decode cX9_fill 71 = .ok (.aload_n 0, 1) := by decide +kernel
theorem dX9_fill_72 : decode cX9_fill 72 = .ok (.iload_n 1, 1) := by decide +kernel
theorem dX9_fill_73 : decode cX9_fill 73 = .ok (.iload 5, 2) := by decide +kernel
theorem dX9_fill_75 : decode cX9_fill 75 = .ok (.iload 4, 2) := by decide +kernel
theorem dX9_fill_77 : decode cX9_fill 77 = .ok (.aload_n 0, 1) := by decide +kernel
theorem dX9_fill_78 : decode cX9_fill 78 = .ok (.getfield 19, 3) := by decide +kernel
theorem dX9_fill_81 : decode cX9_fill 81 = .ok (.aload_n 0, 1) := by decide +kernel
theorem dX9_fill_82 : decode cX9_fill 82 = .ok (.getfield 26, 3) := by decide +kernel
theorem dX9_fill_85 : decode cX9_fill 85 = .ok (.iload 6, 2) := by decide +kernel
theorem dX9_fill_87 : decode cX9_fill 87 = .ok (.imul, 1) := by decide +kernel
theorem dX9_fill_88 : decode cX9_fill 88 = .ok (.bipush 16, 2) := by decide +kernel
theorem dX9_fill_90 : decode cX9_fill 90 = .ok (.invokestatic 92, 3) := by decide +kernel
theorem dX9_fill_93 : decode cX9_fill 93 = .ok (.invokevirtual 128, 3) := by decide +kernel
theorem dX9_fill_96 : decode cX9_fill 96 = .ok (.goto 46, 3) := by decide +kernel
theorem dX9_fill_99 : decode cX9_fill 99 = .ok (.aload_n 0, 1) := by decide +kernel
theorem dX9_fill_100 : decode cX9_fill 100 = .ok (.bipush 32, 2) := by decide +kernel
theorem dX9_fill_102 : decode cX9_fill 102 = .ok (.iload 5, 2) := by decide +kernel
theorem dX9_fill_104 : decode cX9_fill 104 = .ok (.imul, 1) := by decide +kernel
theorem dX9_fill_105 : decode cX9_fill 105 = .ok (.bipush 16, 2) := by decide +kernel
theorem dX9_fill_107 : decode cX9_fill 107 = .ok (.iadd, 1) := by decide +kernel
theorem dX9_fill_108 : decode cX9_fill 108 = .ok (.i2l, 1) := by decide +kernel
theorem dX9_fill_109 : decode cX9_fill 109 = .ok (.bipush 32, 2) := by decide +kernel
theorem dX9_fill_111 : decode cX9_fill 111 = .ok (.iload 4, 2) := by decide +kernel
theorem dX9_fill_113 : decode cX9_fill 113 = .ok (.imul, 1) := by decide +kernel
theorem dX9_fill_114 : decode cX9_fill 114 = .ok (.bipush 16, 2) := by decide +kernel
theorem dX9_fill_116 : decode cX9_fill 116 = .ok (.iadd, 1) := by decide +kernel
theorem dX9_fill_117 : decode cX9_fill 117 = .ok (.i2l, 1) := by decide +kernel
theorem dX9_fill_118 : decode cX9_fill 118 = .ok (.iload_n 2, 1) := by decide +kernel
theorem dX9_fill_119 : decode cX9_fill 119 = .ok (.invokevirtual 149, 3) := by decide +kernel
theorem dX9_fill_122 : decode cX9_fill 122 = .ok (.ifCond .eq 20, 3) := by decide +kernel
theorem dX9_fill_125 : decode cX9_fill 125 = .ok (.aload_n 0, 1) := by decide +kernel
theorem dX9_fill_126 : decode cX9_fill 126 = .ok (.iload_n 1, 1) := by decide +kernel
theorem dX9_fill_127 : decode cX9_fill 127 = .ok (.iload 5, 2) := by decide +kernel
theorem dX9_fill_129 : decode cX9_fill 129 = .ok (.iload 4, 2) := by decide +kernel
theorem dX9_fill_131 : decode cX9_fill 131 = .ok (.aload_n 0, 1) := by decide +kernel
theorem dX9_fill_132 : decode cX9_fill 132 = .ok (.getfield 19, 3) := by decide +kernel
theorem dX9_fill_135 : decode cX9_fill 135 = .ok (.aload_n 0, 1) := by decide +kernel
theorem dX9_fill_136 : decode cX9_fill 136 = .ok (.getfield 26, 3) := by decide +kernel
theorem dX9_fill_139 : decode cX9_fill 139 = .ok (.invokevirtual 128, 3) := by decide +kernel
theorem dX9_fill_142 : decode cX9_fill 142 = .ok (.iinc 5 1, 3) := by decide +kernel
theorem dX9_fill_145 : decode cX9_fill 145 = .ok (.goto (-105), 3) := by decide +kernel
theorem dX9_fill_148 : decode cX9_fill 148 = .ok (.iinc 4 1, 3) := by decide +kernel
theorem dX9_fill_151 : decode cX9_fill 151 = .ok (.goto (-125), 3) := by decide +kernel
theorem dX9_fill_154 : decode cX9_fill 154 = .ok (.aload_n 0, 1) := by decide +kernel
theorem dX9_fill_155 : decode cX9_fill 155 = .ok (.iload_n 1, 1) := by decide +kernel
theorem dX9_fill_156 : decode cX9_fill 156 = .ok (.invokevirtual 132, 3) := by decide +kernel
theorem dX9_fill_159 : decode cX9_fill 159 = .ok (.ireturn, 1) := by decide +kernel
theorem dX9_corner_0 : decode cX9_corner 0 = .ok (.iload_n 1, 1) := by decide +kernel
theorem dX9_corner_1 : decode cX9_corner 1 = .ok (.ifCond .lt 28, 3) := by decide +kernel
theorem dX9_corner_4 : decode cX9_corner 4 = .ok (.iload_n 1, 1) := by decide +kernel
theorem dX9_corner_5 : decode cX9_corner 5 = .ok (.iconst 2, 1) := by decide +kernel
theorem dX9_corner_6 : decode cX9_corner 6 = .ok (.if_icmp .gt 23, 3) := by decide +kernel
theorem dX9_corner_9 : decode cX9_corner 9 = .ok (.iload_n 2, 1) := by decide +kernel
theorem dX9_corner_10 : decode cX9_corner 10 = .ok (.sipush 200, 3) := by decide +kernel
theorem dX9_corner_13 : decode cX9_corner 13 = .ok (.invokestatic 116, 3) := by decide +kernel
theorem dX9_corner_16 : decode cX9_corner 16 = .ok (.ifCond .eq 13, 3) := by decide +kernel
theorem dX9_corner_19 : decode cX9_corner 19 = .ok (.iload_n 3, 1) := by decide +kernel
theorem dX9_corner_20 : decode cX9_corner 20 = .ok (.sipush 200, 3) := by decide +kernel
theorem dX9_corner_23 : decode cX9_corner 23 = .ok (.invokestatic 116, 3) := by decide +kernel
theorem dX9_corner_26 : decode cX9_corner 26 = .ok (.ifCond .ne 5, 3) := by decide +kernel
theorem dX9_corner_29 : decode cX9_corner 29 = .ok (.iconst 0, 1) := by decide +kernel
theorem dX9_corner_30 : decode cX9_corner 30 = .ok (.ireturn, 1) := by decide +kernel
theorem dX9_corner_31 : decode cX9_corner 31 = .ok (.aload_n 0, 1) := by decide +kernel
theorem dX9_corner_32 : decode cX9_corner 32 = .ok (.getfield 52, 3) := by decide +kernel
theorem dX9_corner_35 : decode cX9_corner 35 = .ok (.iload_n 1, 1) := by decide +kernel
theorem dX9_corner_36 : decode cX9_corner 36 = .ok (.iload_n 2, 1) := by decide +kernel
theorem dX9_corner_37 : decode cX9_corner 37 = .ok (.iastore, 1) := by decide +kernel
theorem dX9_corner_38 : decode cX9_corner 38 = .ok (.aload_n 0, 1) := by decide +kernel
theorem dX9_corner_39 : decode cX9_corner 39 = .ok (.getfield 55, 3) := by decide +kernel
theorem dX9_corner_42 : decode cX9_corner 42 = .ok (.iload_n 1, 1) := by decide +kernel
theorem dX9_corner_43 : decode cX9_corner 43 = .ok (.iload_n 3, 1) := by decide +kernel
theorem dX9_corner_44 : decode cX9_corner 44 = .ok (.iastore, 1) := by decide +kernel
theorem dX9_corner_45 : decode cX9_corner 45 = .ok (.aload_n 0, 1) := by decide +kernel
theorem dX9_corner_46 : decode cX9_corner 46 = .ok (.getfield 58, 3) := by decide +kernel
theorem dX9_corner_49 : decode cX9_corner 49 = .ok (.iload_n 1, 1) := by decide +kernel
theorem dX9_corner_50 : decode cX9_corner 50 = .ok (.iload 4, 2) := by decide +kernel
theorem dX9_corner_52 : decode cX9_corner 52 = .ok (.invokestatic 108, 3) := by decide +kernel
theorem dX9_corner_55 : decode cX9_corner 55 = .ok (.iastore, 1) := by decide +kernel
theorem dX9_corner_56 : decode cX9_corner 56 = .ok (.iconst 1, 1) := by decide +kernel
theorem dX9_corner_57 : decode cX9_corner 57 = .ok (.ireturn, 1) := by decide +kernel
theorem dX9_area_0 : decode cX9_area 0 = .ok (.iload_n 2, 1) := by decide +kernel
theorem dX9_area_1 : decode cX9_area 1 = .ok (.iload_n 0, 1) := by decide +kernel
theorem dX9_area_2 : decode cX9_area 2 = .ok (.isub, 1) := by decide +kernel
theorem dX9_area_3 : decode cX9_area 3 = .ok (.iload 5, 2) := by decide +kernel
theorem dX9_area_5 : decode cX9_area 5 = .ok (.iload_n 1, 1) := by decide +kernel
theorem dX9_area_6 : decode cX9_area 6 = .ok (.isub, 1) := by decide +kernel
theorem dX9_area_7 : decode cX9_area 7 = .ok (.imul, 1) := by decide +kernel
theorem dX9_area_8 : decode cX9_area 8 = .ok (.iload 4, 2) := by decide +kernel
theorem dX9_area_10 : decode cX9_area 10 = .ok (.iload_n 0, 1) := by decide +kernel
theorem dX9_area_11 : decode cX9_area 11 = .ok (.isub, 1) := by decide +kernel
theorem dX9_area_12 : decode cX9_area 12 = .ok (.iload_n 3, 1) := by decide +kernel
theorem dX9_area_13 : decode cX9_area 13 = .ok (.iload_n 1, 1) := by decide +kernel
theorem dX9_area_14 : decode cX9_area 14 = .ok (.isub, 1) := by decide +kernel
theorem dX9_area_15 : decode cX9_area 15 = .ok (.imul, 1) := by decide +kernel
theorem dX9_area_16 : decode cX9_area 16 = .ok (.isub, 1) := by decide +kernel
theorem dX9_area_17 : decode cX9_area 17 = .ok (.istore 6, 2) := by decide +kernel
theorem dX9_area_19 : decode cX9_area 19 = .ok (.iload 6, 2) := by decide +kernel
theorem dX9_area_21 : decode cX9_area 21 = .ok (.ifCond .ge 9, 3) := by decide +kernel
theorem dX9_area_24 : decode cX9_area 24 = .ok (.iload 6, 2) := by decide +kernel
theorem dX9_area_26 : decode cX9_area 26 = .ok (.ineg, 1) := by decide +kernel
theorem dX9_area_27 : decode cX9_area 27 = .ok (.goto 5, 3) := by decide +kernel
theorem dX9_area_30 : decode cX9_area 30 = .ok (.iload 6, 2) := by decide +kernel
theorem dX9_area_32 : decode cX9_area 32 = .ok (.ireturn, 1) := by decide +kernel
theorem dX9_isInTriangle_0 : decode cX9_isInTriangle 0 = .ok (.iconst 0, 1) := by decide +kernel
theorem dX9_isInTriangle_1 : decode cX9_isInTriangle 1 = .ok (.istore_n 3, 1) := by decide +kernel
theorem dX9_isInTriangle_2 : decode cX9_isInTriangle 2 = .ok (.iconst 0, 1) := by decide +kernel
theorem dX9_isInTriangle_3 : decode cX9_isInTriangle 3 = .ok (.istore 4, 2) := by decide +kernel
theorem dX9_isInTriangle_5 : decode cX9_isInTriangle 5 = .ok (.iload 4, 2) := by decide +kernel
theorem dX9_isInTriangle_7 : decode cX9_isInTriangle 7 = .ok (.iconst 3, 1) := by decide +kernel
theorem dX9_isInTriangle_8 : decode cX9_isInTriangle 8 = .ok (.if_icmp .ge 67, 3) := by decide +kernel
theorem dX9_isInTriangle_11 : decode cX9_isInTriangle 11 = .ok (.iload 4, 2) := by decide +kernel
theorem dX9_isInTriangle_13 : decode cX9_isInTriangle 13 = .ok (.iconst 1, 1) := by decide +kernel
theorem dX9_isInTriangle_14 : decode cX9_isInTriangle 14 = .ok (.iadd, 1) := by decide +kernel
theorem dX9_isInTriangle_15 : decode cX9_isInTriangle 15 = .ok (.iconst 3, 1) := by decide +kernel
theorem dX9_isInTriangle_16 : decode cX9_isInTriangle 16 = .ok (.irem, 1) := by decide +kernel
theorem dX9_isInTriangle_17 : decode cX9_isInTriangle 17 = .ok (.istore 5, 2) := by decide +kernel
theorem dX9_isInTriangle_19 : decode cX9_isInTriangle 19 = .ok (.iload_n 3, 1) := by decide +kernel
theorem dX9_isInTriangle_20 : decode cX9_isInTriangle 20 = .ok (.iconst 2, 1) := by decide +kernel
theorem dX9_isInTriangle_21 : decode cX9_isInTriangle 21 = .ok (.aload_n 0, 1) := by decide +kernel
theorem dX9_isInTriangle_22 : decode cX9_isInTriangle 22 = .ok (.getfield 52, 3) := by decide +kernel
theorem dX9_isInTriangle_25 : decode cX9_isInTriangle 25 = .ok (.iload 4, 2) := by decide +kernel
theorem dX9_isInTriangle_27 : decode cX9_isInTriangle 27 = .ok (.iaload, 1) := by decide +kernel
theorem dX9_isInTriangle_28 : decode cX9_isInTriangle 28 = .ok (.imul, 1) := by decide +kernel
theorem dX9_isInTriangle_29 : decode cX9_isInTriangle 29 = .ok (.i2l, 1) := by decide +kernel
theorem dX9_isInTriangle_30 : decode cX9_isInTriangle 30 = .ok (.iconst 2, 1) := by decide +kernel
theorem dX9_isInTriangle_31 : decode cX9_isInTriangle 31 = .ok (.aload_n 0, 1) := by decide +kernel
theorem dX9_isInTriangle_32 : decode cX9_isInTriangle 32 = .ok (.getfield 55, 3) := by decide +kernel
theorem dX9_isInTriangle_35 : decode cX9_isInTriangle 35 = .ok (.iload 4, 2) := by decide +kernel
theorem dX9_isInTriangle_37 : decode cX9_isInTriangle 37 = .ok (.iaload, 1) := by decide +kernel
theorem dX9_isInTriangle_38 : decode cX9_isInTriangle 38 = .ok (.imul, 1) := by decide +kernel
theorem dX9_isInTriangle_39 : decode cX9_isInTriangle 39 = .ok (.i2l, 1) := by decide +kernel
theorem dX9_isInTriangle_40 : decode cX9_isInTriangle 40 = .ok (.iconst 2, 1) := by decide +kernel
theorem dX9_isInTriangle_41 : decode cX9_isInTriangle 41 = .ok (.aload_n 0, 1) := by decide +kernel
theorem dX9_isInTriangle_42 : decode cX9_isInTriangle 42 = .ok (.getfield 52, 3) := by decide +kernel
theorem dX9_isInTriangle_45 : decode cX9_isInTriangle 45 = .ok (.iload 5, 2) := by decide +kernel
theorem dX9_isInTriangle_47 : decode cX9_isInTriangle 47 = .ok (.iaload, 1) := by decide +kernel
theorem dX9_isInTriangle_48 : decode cX9_isInTriangle 48 = .ok (.imul, 1) := by decide +kernel
theorem dX9_isInTriangle_49 : decode cX9_isInTriangle 49 = .ok (.i2l, 1) := by decide +kernel
theorem dX9_isInTriangle_50 : decode cX9_isInTriangle 50 = .ok (.iconst 2, 1) := by decide +kernel
theorem dX9_isInTriangle_51 : decode cX9_isInTriangle 51 = .ok (.aload_n 0, 1) := by decide +kernel
theorem dX9_isInTriangle_52 : decode cX9_isInTriangle 52 = .ok (.getfield 55, 3) := by decide +kernel
theorem dX9_isInTriangle_55 : decode cX9_isInTriangle 55 = .ok (.iload 5, 2) := by decide +kernel
theorem dX9_isInTriangle_57 : decode cX9_isInTriangle 57 = .ok (.iaload, 1) := by decide +kernel
theorem dX9_isInTriangle_58 : decode cX9_isInTriangle 58 = .ok (.imul, 1) := by decide +kernel
theorem dX9_isInTriangle_59 : decode cX9_isInTriangle 59 = .ok (.i2l, 1) := by decide +kernel
theorem dX9_isInTriangle_60 : decode cX9_isInTriangle 60 = .ok (.iload_n 1, 1) := by decide +kernel
theorem dX9_isInTriangle_61 : decode cX9_isInTriangle 61 = .ok (.i2l, 1) := by decide +kernel
theorem dX9_isInTriangle_62 : decode cX9_isInTriangle 62 = .ok (.iload_n 2, 1) := by decide +kernel
theorem dX9_isInTriangle_63 : decode cX9_isInTriangle 63 = .ok (.i2l, 1) := by decide +kernel
theorem dX9_isInTriangle_64 : decode cX9_isInTriangle 64 = .ok (.invokestatic 141, 3) := by decide +kernel
theorem dX9_isInTriangle_67 : decode cX9_isInTriangle 67 = .ok (.iadd, 1) := by decide +kernel
theorem dX9_isInTriangle_68 : decode cX9_isInTriangle 68 = .ok (.istore_n 3, 1) := by decide +kernel
theorem dX9_isInTriangle_69 : decode cX9_isInTriangle 69 = .ok (.iinc 4 1, 3) := by decide +kernel
theorem dX9_isInTriangle_72 : decode cX9_isInTriangle 72 = .ok (.goto (-67), 3) := by decide +kernel
theorem dX9_isInTriangle_75 : decode cX9_isInTriangle 75 = .ok (.iload_n 3, 1) := by decide +kernel
theorem dX9_isInTriangle_76 : decode cX9_isInTriangle 76 = .ok (.ifCond .eq 7, 3) := by decide +kernel
theorem dX9_isInTriangle_79 : decode cX9_isInTriangle 79 = .ok (.iconst 1, 1) := by decide +kernel
theorem dX9_isInTriangle_80 : decode cX9_isInTriangle 80 = .ok (.goto 4, 3) := by decide +kernel
theorem dX9_isInTriangle_83 : decode cX9_isInTriangle 83 = .ok (.iconst 0, 1) := by decide +kernel
theorem dX9_isInTriangle_84 : decode cX9_isInTriangle 84 = .ok (.ireturn, 1) := by decide +kernel
theorem dX9_shade_0 : decode cX9_shade 0 = .ok (.aload_n 0, 1) := by decide +kernel
theorem dX9_shade_1 : decode cX9_shade 1 = .ok (.iload_n 1, 1) := by decide +kernel
theorem dX9_shade_2 : decode cX9_shade 2 = .ok (.invokevirtual 112, 3) := by decide +kernel
theorem dX9_shade_5 : decode cX9_shade 5 = .ok (.ifCond .ne 5, 3) := by decide +kernel
theorem dX9_shade_8 : decode cX9_shade 8 = .ok (.iconst (-1), 1) := by decide +kernel
theorem dX9_shade_9 : decode cX9_shade 9 = .ok (.ireturn, 1) := by decide +kernel
theorem dX9_shade_10 : decode cX9_shade 10 = .ok (.aload_n 0, 1) := by decide +kernel
theorem dX9_shade_11 : decode cX9_shade 11 = .ok (.invokevirtual 122, 3) := by decide +kernel
theorem dX9_shade_14 : decode cX9_shade 14 = .ok (.iconst 2, 1) := by decide +kernel
theorem dX9_shade_15 : decode cX9_shade 15 = .ok (.aload_n 0, 1) := by decide +kernel
theorem dX9_shade_16 : decode cX9_shade 16 = .ok (.getfield 52, 3) := by decide +kernel
theorem dX9_shade_19 : decode cX9_shade 19 = .ok (.iconst 0, 1) := by decide +kernel
theorem dX9_shade_20 : decode cX9_shade 20 = .ok (.iaload, 1) := by decide +kernel
theorem dX9_shade_21 : decode cX9_shade 21 = .ok (.imul, 1) := by decide +kernel
theorem dX9_shade_22 : decode cX9_shade 22 = .ok (.iconst 2, 1) := by decide +kernel
theorem dX9_shade_23 : decode cX9_shade 23 = .ok (.aload_n 0, 1) := by decide +kernel
theorem dX9_shade_24 : decode cX9_shade 24 = .ok (.getfield 55, 3) := by decide +kernel
theorem dX9_shade_27 : decode cX9_shade 27 = .ok (.iconst 0, 1) := by decide +kernel
theorem dX9_shade_28 : decode cX9_shade 28 = .ok (.iaload, 1) := by decide +kernel
theorem dX9_shade_29 : decode cX9_shade 29 = .ok (.imul, 1) := by decide +kernel
theorem dX9_shade_30 : decode cX9_shade 30 = .ok (.iconst 2, 1) := by decide +kernel
theorem dX9_shade_31 : decode cX9_shade 31 = .ok (.aload_n 0, 1) := by decide +kernel
theorem dX9_shade_32 : decode cX9_shade 32 = .ok (.getfield 52, 3) := by decide +kernel
theorem dX9_shade_35 : decode cX9_shade 35 = .ok (.iconst 1, 1) := by decide +kernel
theorem dX9_shade_36 : decode cX9_shade 36 = .ok (.iaload, 1) := by decide +kernel
theorem dX9_shade_37 : decode cX9_shade 37 = .ok (.imul, 1) := by decide +kernel
theorem dX9_shade_38 : decode cX9_shade 38 = .ok (.iconst 2, 1) := by decide +kernel
theorem dX9_shade_39 : decode cX9_shade 39 = .ok (.aload_n 0, 1) := by decide +kernel
theorem dX9_shade_40 : decode cX9_shade 40 = .ok (.getfield 55, 3) := by decide +kernel
theorem dX9_shade_43 : decode cX9_shade 43 = .ok (.iconst 1, 1) := by decide +kernel
theorem dX9_shade_44 : decode cX9_shade 44 = .ok (.iaload, 1) := by decide +kernel
theorem dX9_shade_45 : decode cX9_shade 45 = .ok (.imul, 1) := by decide +kernel
theorem dX9_shade_46 : decode cX9_shade 46 = .ok (.iconst 2, 1) := by decide +kernel
theorem dX9_shade_47 : decode cX9_shade 47 = .ok (.aload_n 0, 1) := by decide +kernel
theorem dX9_shade_48 : decode cX9_shade 48 = .ok (.getfield 52, 3) := by decide +kernel
theorem dX9_shade_51 : decode cX9_shade 51 = .ok (.iconst 2, 1) := by decide +kernel
theorem dX9_shade_52 : decode cX9_shade 52 = .ok (.iaload, 1) := by decide +kernel
theorem dX9_shade_53 : decode cX9_shade 53 = .ok (.imul, 1) := by decide +kernel
theorem dX9_shade_54 : decode cX9_shade 54 = .ok (.iconst 2, 1) := by decide +kernel
theorem dX9_shade_55 : decode cX9_shade 55 = .ok (.aload_n 0, 1) := by decide +kernel
theorem dX9_shade_56 : decode cX9_shade 56 = .ok (.getfield 55, 3) := by decide +kernel
theorem dX9_shade_59 : decode cX9_shade 59 = .ok (.iconst 2, 1) := by decide +kernel
theorem dX9_shade_60 : decode cX9_shade 60 = .ok (.iaload, 1) := by decide +kernel
theorem dX9_shade_61 : decode cX9_shade 61 = .ok (.imul, 1) := by decide +kernel
theorem dX9_shade_62 : decode cX9_shade 62 = .ok (.invokestatic 156, 3) := by decide +kernel
theorem dX9_shade_65 : decode cX9_shade 65 = .ok (.istore_n 2, 1) := by decide +kernel
theorem dX9_shade_66 : decode cX9_shade 66 = .ok (.iload_n 2, 1) := by decide +kernel
theorem dX9_shade_67 : decode cX9_shade 67 = .ok (.ifCond .ne 5, 3) := by decide +kernel
theorem dX9_shade_70 : decode cX9_shade 70 = .ok (.iconst 0, 1) := by decide +kernel
theorem dX9_shade_71 : decode cX9_shade 71 = .ok (.ireturn, 1) := by decide +kernel
theorem dX9_shade_72 : decode cX9_shade 72 = .ok (.iconst 0, 1) := by decide +kernel
theorem dX9_shade_73 : decode cX9_shade 73 = .ok (.istore_n 3, 1) := by decide +kernel
theorem dX9_shade_74 : decode cX9_shade 74 = .ok (.iload_n 3, 1) := by decide +kernel
theorem dX9_shade_75 : decode cX9_shade 75 = .ok (.aload_n 0, 1) := by decide +kernel
theorem dX9_shade_76 : decode cX9_shade 76 = .ok (.getfield 13, 3) := by decide +kernel
theorem dX9_shade_79 : decode cX9_shade 79 = .ok (.iload_n 1, 1) := by decide +kernel
theorem dX9_shade_80 : decode cX9_shade 80 = .ok (.iaload, 1) := by decide +kernel
theorem dX9_shade_81 : decode cX9_shade 81 = .ok (.if_icmp .ge 75, 3) := by decide +kernel
theorem dX9_shade_84 : decode cX9_shade 84 = .ok (.iconst 0, 1) := by decide +kernel
theorem dX9_shade_85 : decode cX9_shade 85 = .ok (.istore 4, 2) := by decide +kernel
theorem dX9_shade_87 : decode cX9_shade 87 = .ok (.iload 4, 2) := by decide +kernel
theorem dX9_shade_89 : decode cX9_shade 89 = .ok (.aload_n 0, 1) := by decide +kernel
theorem dX9_shade_90 : decode cX9_shade 90 = .ok (.getfield 7, 3) := by decide +kernel
theorem dX9_shade_93 : decode cX9_shade 93 = .ok (.iload_n 1, 1) := by decide +kernel
theorem dX9_shade_94 : decode cX9_shade 94 = .ok (.iaload, 1) := by decide +kernel
theorem dX9_shade_95 : decode cX9_shade 95 = .ok (.if_icmp .ge 55, 3) := by decide +kernel
theorem dX9_shade_98 : decode cX9_shade 98 = .ok (.aload_n 0, 1) := by decide +kernel
theorem dX9_shade_99 : decode cX9_shade 99 = .ok (.iconst 2, 1) := by decide +kernel
theorem dX9_shade_100 : decode cX9_shade 100 = .ok (.iload 4, 2) := by decide +kernel
theorem dX9_shade_102 : decode cX9_shade 102 = .ok (.imul, 1) := by decide +kernel
theorem dX9_shade_103 : decode cX9_shade 103 = .ok (.iconst 1, 1) := by decide +kernel
theorem dX9_shade_104 : decode cX9_shade 104 = .ok (.iadd, 1) := by decide +kernel
theorem dX9_shade_105 : decode cX9_shade 105 = .ok (.iconst 2, 1) := by decide +kernel
theorem dX9_shade_106 : decode cX9_shade 106 = .ok (.iload_n 3, 1) := by decide +kernel
theorem dX9_shade_107 : decode cX9_shade 107 = .ok (.imul, 1) := by decide +kernel
theorem dX9_shade_108 : decode cX9_shade 108 = .ok (.iconst 1, 1) := by decide +kernel
theorem dX9_shade_109 : decode cX9_shade 109 = .ok (.iadd, 1) := by decide +kernel
theorem dX9_shade_110 : decode cX9_shade 110 = .ok (.invokevirtual 160, 3) := by decide +kernel
theorem dX9_shade_113 : decode cX9_shade 113 = .ok (.ifCond .eq 31, 3) := by decide +kernel
theorem dX9_shade_116 : decode cX9_shade 116 = .ok (.aload_n 0, 1) := by decide +kernel
theorem dX9_shade_117 : decode cX9_shade 117 = .ok (.iload_n 1, 1) := by decide +kernel
theorem dX9_shade_118 : decode cX9_shade 118 = .ok (.iload 4, 2) := by decide +kernel
theorem dX9_shade_120 : decode cX9_shade 120 = .ok (.iload_n 3, 1) := by decide +kernel
theorem dX9_shade_121 : decode cX9_shade 121 = .ok (.aload_n 0, 1) := by decide +kernel
theorem dX9_shade_122 : decode cX9_shade 122 = .ok (.iconst 2, 1) := by decide +kernel
theorem dX9_shade_123 : decode cX9_shade 123 = .ok (.iload 4, 2) := by decide +kernel
theorem dX9_shade_125 : decode cX9_shade 125 = .ok (.imul, 1) := by decide +kernel
theorem dX9_shade_126 : decode cX9_shade 126 = .ok (.iconst 1, 1) := by decide +kernel
theorem dX9_shade_127 : decode cX9_shade 127 = .ok (.iadd, 1) := by decide +kernel
theorem dX9_shade_128 : decode cX9_shade 128 = .ok (.iconst 2, 1) := by decide +kernel
theorem dX9_shade_129 : decode cX9_shade 129 = .ok (.iload_n 3, 1) := by decide +kernel
theorem dX9_shade_130 : decode cX9_shade 130 = .ok (.imul, 1) := by decide +kernel
theorem dX9_shade_131 : decode cX9_shade 131 = .ok (.iconst 1, 1) := by decide +kernel
theorem dX9_shade_132 : decode cX9_shade 132 = .ok (.iadd, 1) := by decide +kernel
theorem dX9_shade_133 : decode cX9_shade 133 = .ok (.iload_n 2, 1) := by decide +kernel
theorem dX9_shade_134 : decode cX9_shade 134 = .ok (.invokevirtual 163, 3) := by decide +kernel
theorem dX9_shade_137 : decode cX9_shade 137 = .ok (.aload_n 0, 1) := by decide +kernel
theorem dX9_shade_138 : decode cX9_shade 138 = .ok (.getfield 26, 3) := by decide +kernel
theorem dX9_shade_141 : decode cX9_shade 141 = .ok (.invokevirtual 128, 3) := by decide +kernel
theorem dX9_shade_144 : decode cX9_shade 144 = .ok (.iinc 4 1, 3) := by decide +kernel
theorem dX9_shade_147 : decode cX9_shade 147 = .ok (.goto (-60), 3) := by decide +kernel
theorem dX9_shade_150 : decode cX9_shade 150 = .ok (.iinc 3 1, 3) := by decide +kernel
theorem dX9_shade_153 : decode cX9_shade 153 = .ok (.goto (-79), 3) := by decide +kernel
theorem dX9_shade_156 : decode cX9_shade 156 = .ok (.aload_n 0, 1) := by decide +kernel
theorem dX9_shade_157 : decode cX9_shade 157 = .ok (.iload_n 1, 1) := by decide +kernel
theorem dX9_shade_158 : decode cX9_shade 158 = .ok (.invokevirtual 132, 3) := by decide +kernel
theorem dX9_shade_161 : decode cX9_shade 161 = .ok (.ireturn, 1) := by decide +kernel
theorem dX9_mixed_0 : decode cX9_mixed 0 = .ok (.iload_n 1, 1) := by decide +kernel
theorem dX9_mixed_1 : decode cX9_mixed 1 = .ok (.iload_n 2, 1) := by decide +kernel
theorem dX9_mixed_2 : decode cX9_mixed 2 = .ok (.iconst 2, 1) := by decide +kernel
theorem dX9_mixed_3 : decode cX9_mixed 3 = .ok (.aload_n 0, 1) := by decide +kernel
theorem dX9_mixed_4 : decode cX9_mixed 4 = .ok (.getfield 52, 3) := by decide +kernel
theorem dX9_mixed_7 : decode cX9_mixed 7 = .ok (.iconst 1, 1) := by decide +kernel
theorem dX9_mixed_8 : decode cX9_mixed 8 = .ok (.iaload, 1) := by decide +kernel
theorem dX9_mixed_9 : decode cX9_mixed 9 = .ok (.imul, 1) := by decide +kernel
theorem dX9_mixed_10 : decode cX9_mixed 10 = .ok (.iconst 2, 1) := by decide +kernel
theorem dX9_mixed_11 : decode cX9_mixed 11 = .ok (.aload_n 0, 1) := by decide +kernel
theorem dX9_mixed_12 : decode cX9_mixed 12 = .ok (.getfield 55, 3) := by decide +kernel
theorem dX9_mixed_15 : decode cX9_mixed 15 = .ok (.iconst 1, 1) := by decide +kernel
theorem dX9_mixed_16 : decode cX9_mixed 16 = .ok (.iaload, 1) := by decide +kernel
theorem dX9_mixed_17 : decode cX9_mixed 17 = .ok (.imul, 1) := by decide +kernel
theorem dX9_mixed_18 : decode cX9_mixed 18 = .ok (.iconst 2, 1) := by decide +kernel
theorem dX9_mixed_19 : decode cX9_mixed 19 = .ok (.aload_n 0, 1) := by decide +kernel
theorem dX9_mixed_20 : decode cX9_mixed 20 = .ok (.getfield 52, 3) := by decide +kernel
theorem dX9_mixed_23 : decode cX9_mixed 23 = .ok (.iconst 2, 1) := by decide +kernel
theorem dX9_mixed_24 : decode cX9_mixed 24 = .ok (.iaload, 1) := by decide +kernel
theorem dX9_mixed_25 : decode cX9_mixed 25 = .ok (.imul, 1) := by decide +kernel
theorem dX9_mixed_26 : decode cX9_mixed 26 = .ok (.iconst 2, 1) := by decide +kernel
theorem dX9_mixed_27 : decode cX9_mixed 27 = .ok (.aload_n 0, 1) := by decide +kernel
theorem dX9_mixed_28 : decode cX9_mixed 28 = .ok (.getfield 55, 3) := by decide +kernel
theorem dX9_mixed_31 : decode cX9_mixed 31 = .ok (.iconst 2, 1) := by decide +kernel
theorem dX9_mixed_32 : decode cX9_mixed 32 = .ok (.iaload, 1) := by decide +kernel
theorem dX9_mixed_33 : decode cX9_mixed 33 = .ok (.imul, 1) := by decide +kernel
theorem dX9_mixed_34 : decode cX9_mixed 34 = .ok (.invokestatic 156, 3) := by decide +kernel
theorem dX9_mixed_37 : decode cX9_mixed 37 = .ok (.istore 4, 2) := by decide +kernel
theorem dX9_mixed_39 : decode cX9_mixed 39 = .ok (.iload_n 1, 1) := by decide +kernel
theorem dX9_mixed_40 : decode cX9_mixed 40 = .ok (.iload_n 2, 1) := by decide +kernel
theorem dX9_mixed_41 : decode cX9_mixed 41 = .ok (.iconst 2, 1) := by decide +kernel
theorem dX9_mixed_42 : decode cX9_mixed 42 = .ok (.aload_n 0, 1) := by decide +kernel
theorem dX9_mixed_43 : decode cX9_mixed 43 = .ok (.getfield 52, 3) := by decide +kernel
theorem dX9_mixed_46 : decode cX9_mixed 46 = .ok (.iconst 2, 1) := by decide +kernel
theorem dX9_mixed_47 : decode cX9_mixed 47 = .ok (.iaload, 1) := by decide +kernel
theorem dX9_mixed_48 : decode cX9_mixed 48 = .ok (.imul, 1) := by decide +kernel
theorem dX9_mixed_49 : decode cX9_mixed 49 = .ok (.iconst 2, 1) := by decide +kernel
theorem dX9_mixed_50 : decode cX9_mixed 50 = .ok (.aload_n 0, 1) := by decide +kernel
theorem dX9_mixed_51 : decode cX9_mixed 51 = .ok (.getfield 55, 3) := by decide +kernel
theorem dX9_mixed_54 : decode cX9_mixed 54 = .ok (.iconst 2, 1) := by decide +kernel
theorem dX9_mixed_55 : decode cX9_mixed 55 = .ok (.iaload, 1) := by decide +kernel
theorem dX9_mixed_56 : decode cX9_mixed 56 = .ok (.imul, 1) := by decide +kernel
theorem dX9_mixed_57 : decode cX9_mixed 57 = .ok (.iconst 2, 1) := by decide +kernel
theorem dX9_mixed_58 : decode cX9_mixed 58 = .ok (.aload_n 0, 1) := by decide +kernel
theorem dX9_mixed_59 : decode cX9_mixed 59 = .ok (.getfield 52, 3) := by decide +kernel
theorem dX9_mixed_62 : decode cX9_mixed 62 = .ok (.iconst 0, 1) := by decide +kernel
theorem dX9_mixed_63 : decode cX9_mixed 63 = .ok (.iaload, 1) := by decide +kernel
theorem dX9_mixed_64 : decode cX9_mixed 64 = .ok (.imul, 1) := by decide +kernel
theorem dX9_mixed_65 : decode cX9_mixed 65 = .ok (.iconst 2, 1) := by decide +kernel
theorem dX9_mixed_66 : decode cX9_mixed 66 = .ok (.aload_n 0, 1) := by decide +kernel
theorem dX9_mixed_67 : decode cX9_mixed 67 = .ok (.getfield 55, 3) := by decide +kernel
theorem dX9_mixed_70 : decode cX9_mixed 70 = .ok (.iconst 0, 1) := by decide +kernel
theorem dX9_mixed_71 : decode cX9_mixed 71 = .ok (.iaload, 1) := by decide +kernel
theorem dX9_mixed_72 : decode cX9_mixed 72 = .ok (.imul, 1) := by decide +kernel
theorem dX9_mixed_73 : decode cX9_mixed 73 = .ok (.invokestatic 156, 3) := by decide +kernel
theorem dX9_mixed_76 : decode cX9_mixed 76 = .ok (.istore 5, 2) := by decide +kernel
theorem dX9_mixed_78 : decode cX9_mixed 78 = .ok (.iload_n 1, 1) := by decide +kernel
theorem dX9_mixed_79 : decode cX9_mixed 79 = .ok (.iload_n 2, 1) := by decide +kernel
theorem dX9_mixed_80 : decode cX9_mixed 80 = .ok (.iconst 2, 1) := by decide +kernel
theorem dX9_mixed_81 : decode cX9_mixed 81 = .ok (.aload_n 0, 1) := by decide +kernel
theorem dX9_mixed_82 : decode cX9_mixed 82 = .ok (.getfield 52, 3) := by decide +kernel
theorem dX9_mixed_85 : decode cX9_mixed 85 = .ok (.iconst 0, 1) := by decide +kernel
theorem dX9_mixed_86 : decode cX9_mixed 86 = .ok (.iaload, 1) := by decide +kernel
theorem dX9_mixed_87 : decode cX9_mixed 87 = .ok (.imul, 1) := by decide +kernel
theorem dX9_mixed_88 : decode cX9_mixed 88 = .ok (.iconst 2, 1) := by decide +kernel
theorem dX9_mixed_89 : decode cX9_mixed 89 = .ok (.aload_n 0, 1) := by decide +kernel
theorem dX9_mixed_90 : decode cX9_mixed 90 = .ok (.getfield 55, 3) := by decide +kernel
theorem dX9_mixed_93 : decode cX9_mixed 93 = .ok (.iconst 0, 1) := by decide +kernel
theorem dX9_mixed_94 : decode cX9_mixed 94 = .ok (.iaload, 1) := by decide +kernel
theorem dX9_mixed_95 : decode cX9_mixed 95 = .ok (.imul, 1) := by decide +kernel
theorem dX9_mixed_96 : decode cX9_mixed 96 = .ok (.iconst 2, 1) := by decide +kernel
theorem dX9_mixed_97 : decode cX9_mixed 97 = .ok (.aload_n 0, 1) := by decide +kernel
theorem dX9_mixed_98 : decode cX9_mixed 98 = .ok (.getfield 52, 3) := by decide +kernel
theorem dX9_mixed_101 : decode cX9_mixed 101 = .ok (.iconst 1, 1) := by decide +kernel
theorem dX9_mixed_102 : decode cX9_mixed 102 = .ok (.iaload, 1) := by decide +kernel
theorem dX9_mixed_103 : decode cX9_mixed 103 = .ok (.imul, 1) := by decide +kernel
theorem dX9_mixed_104 : decode cX9_mixed 104 = .ok (.iconst 2, 1) := by decide +kernel
theorem dX9_mixed_105 : decode cX9_mixed 105 = .ok (.aload_n 0, 1) := by decide +kernel
theorem dX9_mixed_106 : decode cX9_mixed 106 = .ok (.getfield 55, 3) := by decide +kernel
theorem dX9_mixed_109 : decode cX9_mixed 109 = .ok (.iconst 1, 1) := by decide +kernel
theorem dX9_mixed_110 : decode cX9_mixed 110 = .ok (.iaload, 1) := by decide +kernel
theorem dX9_mixed_111 : decode cX9_mixed 111 = .ok (.imul, 1) := by decide +kernel
theorem dX9_mixed_112 : decode cX9_mixed 112 = .ok (.invokestatic 156, 3) := by decide +kernel
theorem dX9_mixed_115 : decode cX9_mixed 115 = .ok (.istore 6, 2) := by decide +kernel
theorem dX9_mixed_117 : decode cX9_mixed 117 = .ok (.iconst 0, 1) := by decide +kernel
theorem dX9_mixed_118 : decode cX9_mixed 118 = .ok (.istore 7, 2) := by decide +kernel
theorem dX9_mixed_120 : decode cX9_mixed 120 = .ok (.iconst 0, 1) := by decide +kernel
theorem dX9_mixed_121 : decode cX9_mixed 121 = .ok (.istore 8, 2) := by decide +kernel
theorem dX9_mixed_123 : decode cX9_mixed 123 = .ok (.iload 8, 2) := by decide +kernel
theorem dX9_mixed_125 : decode cX9_mixed 125 = .ok (.iconst 4, 1) := by decide +kernel
theorem dX9_mixed_126 : decode cX9_mixed 126 = .ok (.if_icmp .ge 63, 3) := by decide +kernel
theorem dX9_mixed_129 : decode cX9_mixed 129 = .ok (.iload 7, 2) := by decide +kernel
theorem dX9_mixed_131 : decode cX9_mixed 131 = .ok (.bipush 8, 2) := by decide +kernel
theorem dX9_mixed_133 : decode cX9_mixed 133 = .ok (.ishl, 1) := by decide +kernel
theorem dX9_mixed_134 : decode cX9_mixed 134 = .ok (.iload 4, 2) := by decide +kernel
theorem dX9_mixed_136 : decode cX9_mixed 136 = .ok (.aload_n 0, 1) := by decide +kernel
theorem dX9_mixed_137 : decode cX9_mixed 137 = .ok (.getfield 58, 3) := by decide +kernel
theorem dX9_mixed_140 : decode cX9_mixed 140 = .ok (.iconst 0, 1) := by decide +kernel
theorem dX9_mixed_141 : decode cX9_mixed 141 = .ok (.iaload, 1) := by decide +kernel
theorem dX9_mixed_142 : decode cX9_mixed 142 = .ok (.iload 8, 2) := by decide +kernel
theorem dX9_mixed_144 : decode cX9_mixed 144 = .ok (.invokestatic 88, 3) := by decide +kernel
theorem dX9_mixed_147 : decode cX9_mixed 147 = .ok (.imul, 1) := by decide +kernel
theorem dX9_mixed_148 : decode cX9_mixed 148 = .ok (.iload 5, 2) := by decide +kernel
theorem dX9_mixed_150 : decode cX9_mixed 150 = .ok (.aload_n 0, 1) := by decide +kernel
theorem dX9_mixed_151 : decode cX9_mixed 151 = .ok (.getfield 58, 3) := by decide +kernel
theorem dX9_mixed_154 : decode cX9_mixed 154 = .ok (.iconst 1, 1) := by decide +kernel
theorem dX9_mixed_155 : decode cX9_mixed 155 = .ok (.iaload, 1) := by decide +kernel
theorem dX9_mixed_156 : decode cX9_mixed 156 = .ok (.iload 8, 2) := by decide +kernel
theorem dX9_mixed_158 : decode cX9_mixed 158 = .ok (.invokestatic 88, 3) := by decide +kernel
theorem dX9_mixed_161 : decode cX9_mixed 161 = .ok (.imul, 1) := by decide +kernel
theorem dX9_mixed_162 : decode cX9_mixed 162 = .ok (.iadd, 1) := by decide +kernel
theorem dX9_mixed_163 : decode cX9_mixed 163 = .ok (.iload 6, 2) := by decide +kernel
theorem dX9_mixed_165 : decode cX9_mixed 165 = .ok (.aload_n 0, 1) := by decide +kernel
theorem dX9_mixed_166 : decode cX9_mixed 166 = .ok (.getfield 58, 3) := by decide +kernel
theorem dX9_mixed_169 : decode cX9_mixed 169 = .ok (.iconst 2, 1) := by decide +kernel
theorem dX9_mixed_170 : decode cX9_mixed 170 = .ok (.iaload, 1) := by decide +kernel
theorem dX9_mixed_171 : decode cX9_mixed 171 = .ok (.iload 8, 2) := by decide +kernel
theorem dX9_mixed_173 : decode cX9_mixed 173 = .ok (.invokestatic 88, 3) := by decide +kernel
theorem dX9_mixed_176 : decode cX9_mixed 176 = .ok (.imul, 1) := by decide +kernel
theorem dX9_mixed_177 : decode cX9_mixed 177 = .ok (.iadd, 1) := by decide +kernel
theorem dX9_mixed_178 : decode cX9_mixed 178 = .ok (.iload_n 3, 1) := by decide +kernel
theorem dX9_mixed_179 : decode cX9_mixed 179 = .ok (.idiv, 1) := by decide +kernel
theorem dX9_mixed_180 : decode cX9_mixed 180 = .ok (.ior, 1) := by decide +kernel
theorem dX9_mixed_181 : decode cX9_mixed 181 = .ok (.istore 7, 2) := by decide +kernel
theorem dX9_mixed_183 : decode cX9_mixed 183 = .ok (.iinc 8 1, 3) := by decide +kernel
theorem dX9_mixed_186 : decode cX9_mixed 186 = .ok (.goto (-63), 3) := by decide +kernel
theorem dX9_mixed_189 : decode cX9_mixed 189 = .ok (.iload 7, 2) := by decide +kernel
theorem dX9_mixed_191 : decode cX9_mixed 191 = .ok (.ireturn, 1) := by decide +kernel
theorem dX9_joins_0 : decode cX9_joins 0 = .ok (.aload_n 0, 1) := by decide +kernel
theorem dX9_joins_1 : decode cX9_joins 1 = .ok (.invokevirtual 122, 3) := by decide +kernel
theorem dX9_joins_4 : decode cX9_joins 4 = .ok (.aload_n 0, 1) := by decide +kernel
theorem dX9_joins_5 : decode cX9_joins 5 = .ok (.getfield 16, 3) := by decide +kernel
theorem dX9_joins_8 : decode cX9_joins 8 = .ok (.iload_n 1, 1) := by decide +kernel
theorem dX9_joins_9 : decode cX9_joins 9 = .ok (.iload_n 2, 1) := by decide +kernel
theorem dX9_joins_10 : decode cX9_joins 10 = .ok (.iload_n 3, 1) := by decide +kernel
theorem dX9_joins_11 : decode cX9_joins 11 = .ok (.invokestatic 166, 3) := by decide +kernel
theorem dX9_joins_14 : decode cX9_joins 14 = .ok (.iaload, 1) := by decide +kernel
theorem dX9_joins_15 : decode cX9_joins 15 = .ok (.istore 6, 2) := by decide +kernel
theorem dX9_joins_17 : decode cX9_joins 17 = .ok (.iconst 1, 1) := by decide +kernel
theorem dX9_joins_18 : decode cX9_joins 18 = .ok (.istore 7, 2) := by decide +kernel
theorem dX9_joins_20 : decode cX9_joins 20 = .ok (.iconst 0, 1) := by decide +kernel
theorem dX9_joins_21 : decode cX9_joins 21 = .ok (.istore 8, 2) := by decide +kernel
theorem dX9_joins_23 : decode cX9_joins 23 = .ok (.aload_n 0, 1) := by decide +kernel
theorem dX9_joins_24 : decode cX9_joins 24 = .ok (.getfield 61, 3) := by decide +kernel
theorem dX9_joins_27 : decode cX9_joins 27 = .ok (.iconst 0, 1) := by decide +kernel
theorem dX9_joins_28 : decode cX9_joins 28 = .ok (.bipush 64, 2) := by decide +kernel
theorem dX9_joins_30 : decode cX9_joins 30 = .ok (.iload_n 3, 1) := by decide +kernel
theorem dX9_joins_31 : decode cX9_joins 31 = .ok (.imul, 1) := by decide +kernel
theorem dX9_joins_32 : decode cX9_joins 32 = .ok (.iload_n 2, 1) := by decide +kernel
theorem dX9_joins_33 : decode cX9_joins 33 = .ok (.iadd, 1) := by decide +kernel
theorem dX9_joins_34 : decode cX9_joins 34 = .ok (.iastore, 1) := by decide +kernel
theorem dX9_joins_35 : decode cX9_joins 35 = .ok (.aload_n 0, 1) := by decide +kernel
theorem dX9_joins_36 : decode cX9_joins 36 = .ok (.getfield 33, 3) := by decide +kernel
theorem dX9_joins_39 : decode cX9_joins 39 = .ok (.aload_n 0, 1) := by decide +kernel
theorem dX9_joins_40 : decode cX9_joins 40 = .ok (.getfield 61, 3) := by decide +kernel
theorem dX9_joins_43 : decode cX9_joins 43 = .ok (.iconst 0, 1) := by decide +kernel
theorem dX9_joins_44 : decode cX9_joins 44 = .ok (.iaload, 1) := by decide +kernel
theorem dX9_joins_45 : decode cX9_joins 45 = .ok (.iconst 1, 1) := by decide +kernel
theorem dX9_joins_46 : decode cX9_joins 46 = .ok (.bastore, 1) := by decide +kernel
theorem dX9_joins_47 : decode cX9_joins 47 = .ok (.iload 8, 2) := by decide +kernel
theorem dX9_joins_49 : decode cX9_joins 49 = .ok (.iload 7, 2) := by decide +kernel
theorem dX9_joins_51 : decode cX9_joins 51 = .ok (.if_icmp .ge 196, 3) := by decide +kernel
theorem dX9_joins_54 : decode cX9_joins 54 = .ok (.aload_n 0, 1) := by decide +kernel
theorem dX9_joins_55 : decode cX9_joins 55 = .ok (.getfield 61, 3) := by decide +kernel
theorem dX9_joins_58 : decode cX9_joins 58 = .ok (.iload 8, 2) := by decide +kernel
theorem dX9_joins_60 : decode cX9_joins 60 = .ok (.iaload, 1) := by decide +kernel
theorem dX9_joins_61 : decode cX9_joins 61 = .ok (.bipush 64, 2) := by decide +kernel
theorem dX9_joins_63 : decode cX9_joins 63 = .ok (.irem, 1) := by decide +kernel
theorem dX9_joins_64 : decode cX9_joins 64 = .ok (.istore 9, 2) := by decide +kernel
theorem dX9_joins_66 : decode cX9_joins 66 = .ok (.aload_n 0, 1) := by decide +kernel
theorem dX9_joins_67 : decode cX9_joins 67 = .ok (.getfield 61, 3) := by decide +kernel
theorem dX9_joins_70 : decode cX9_joins 70 = .ok (.iload 8, 2) := by decide +kernel
theorem dX9_joins_72 : decode cX9_joins 72 = .ok (.iaload, 1) := by decide +kernel
theorem dX9_joins_73 : decode cX9_joins 73 = .ok (.bipush 64, 2) := by decide +kernel
theorem dX9_joins_75 : decode cX9_joins 75 = .ok (.idiv, 1) := by decide +kernel
theorem dX9_joins_76 : decode cX9_joins 76 = .ok (.istore 10, 2) := by decide +kernel
theorem dX9_joins_78 : decode cX9_joins 78 = .ok (.iload 8, 2) := by decide +kernel
theorem dX9_joins_80 : decode cX9_joins 80 = .ok (.iconst 1, 1) := by decide +kernel
theorem dX9_joins_81 : decode cX9_joins 81 = .ok (.iadd, 1) := by decide +kernel
theorem dX9_joins_82 : decode cX9_joins 82 = .ok (.istore 8, 2) := by decide +kernel
theorem dX9_joins_84 : decode cX9_joins 84 = .ok (.iconst 0, 1) := by decide +kernel
theorem dX9_joins_85 : decode cX9_joins 85 = .ok (.istore 11, 2) := by decide +kernel
theorem dX9_joins_87 : decode cX9_joins 87 = .ok (.iload 11, 2) := by decide +kernel
theorem dX9_joins_89 : decode cX9_joins 89 = .ok (.bipush 9, 2) := by decide +kernel
theorem dX9_joins_91 : decode cX9_joins 91 = .ok (.if_icmp .ge 153, 3) := by decide +kernel
theorem dX9_joins_94 : decode cX9_joins 94 = .ok (.iload 11, 2) := by decide +kernel
theorem dX9_joins_96 : decode cX9_joins 96 = .ok (.iconst 3, 1) := by decide +kernel
theorem dX9_joins_97 : decode cX9_joins 97 = .ok (.irem, 1) := by decide +kernel
theorem dX9_joins_98 : decode cX9_joins 98 = .ok (.iconst 1, 1) := by decide +kernel
theorem dX9_joins_99 : decode cX9_joins 99 = .ok (.isub, 1) := by decide +kernel
theorem dX9_joins_100 : decode cX9_joins 100 = .ok (.istore 12, 2) := by decide +kernel
theorem dX9_joins_102 : decode cX9_joins 102 = .ok (.iload 11, 2) := by decide +kernel
theorem dX9_joins_104 : decode cX9_joins 104 = .ok (.iconst 3, 1) := by decide +kernel
theorem dX9_joins_105 : decode cX9_joins 105 = .ok (.idiv, 1) := by decide +kernel
theorem dX9_joins_106 : decode cX9_joins 106 = .ok (.iconst 1, 1) := by decide +kernel
theorem dX9_joins_107 : decode cX9_joins 107 = .ok (.isub, 1) := by decide +kernel
theorem dX9_joins_108 : decode cX9_joins 108 = .ok (.istore 13, 2) := by decide +kernel
theorem dX9_joins_110 : decode cX9_joins 110 = .ok (.iload 4, 2) := by decide +kernel
theorem dX9_joins_112 : decode cX9_joins 112 = .ok (.ifCond .ne 13, 3) := by decide +kernel
theorem dX9_joins_115 : decode cX9_joins 115 = .ok (.iload 12, 2) := by decide +kernel
theorem dX9_joins_117 : decode cX9_joins 117 = .ok (.ifCond .eq 8, 3) := by decide +kernel
theorem dX9_joins_120 : decode cX9_joins 120 = .ok (.iload 13, 2) := by decide +kernel
theorem dX9_joins_122 : decode cX9_joins 122 = .ok (.ifCond .ne 116, 3) := by decide +kernel
theorem dX9_joins_125 : decode cX9_joins 125 = .ok (.aload_n 0, 1) := by decide +kernel
theorem dX9_joins_126 : decode cX9_joins 126 = .ok (.iload_n 1, 1) := by decide +kernel
theorem dX9_joins_127 : decode cX9_joins 127 = .ok (.iload 9, 2) := by decide +kernel
theorem dX9_joins_129 : decode cX9_joins 129 = .ok (.iload 12, 2) := by decide +kernel
theorem dX9_joins_131 : decode cX9_joins 131 = .ok (.iadd, 1) := by decide +kernel
theorem dX9_joins_132 : decode cX9_joins 132 = .ok (.iload 10, 2) := by decide +kernel
theorem dX9_joins_134 : decode cX9_joins 134 = .ok (.iload 13, 2) := by decide +kernel
theorem dX9_joins_136 : decode cX9_joins 136 = .ok (.iadd, 1) := by decide +kernel
theorem dX9_joins_137 : decode cX9_joins 137 = .ok (.invokevirtual 80, 3) := by decide +kernel
theorem dX9_joins_140 : decode cX9_joins 140 = .ok (.ifCond .eq 98, 3) := by decide +kernel
theorem dX9_joins_143 : decode cX9_joins 143 = .ok (.iload 5, 2) := by decide +kernel
theorem dX9_joins_145 : decode cX9_joins 145 = .ok (.ifCond .eq 23, 3) := by decide +kernel
theorem dX9_joins_148 : decode cX9_joins 148 = .ok (.aload_n 0, 1) := by decide +kernel
theorem dX9_joins_149 : decode cX9_joins 149 = .ok (.iload 9, 2) := by decide +kernel
theorem dX9_joins_151 : decode cX9_joins 151 = .ok (.iload 12, 2) := by decide +kernel
theorem dX9_joins_153 : decode cX9_joins 153 = .ok (.iadd, 1) := by decide +kernel
theorem dX9_joins_154 : decode cX9_joins 154 = .ok (.iload 10, 2) := by decide +kernel
theorem dX9_joins_156 : decode cX9_joins 156 = .ok (.iload 13, 2) := by decide +kernel
theorem dX9_joins_158 : decode cX9_joins 158 = .ok (.iadd, 1) := by decide +kernel
theorem dX9_joins_159 : decode cX9_joins 159 = .ok (.invokevirtual 84, 3) := by decide +kernel
theorem dX9_joins_162 : decode cX9_joins 162 = .ok (.ifCond .ne 6, 3) := by decide +kernel
theorem dX9_joins_165 : decode cX9_joins 165 = .ok (.goto 73, 3) := by decide +kernel
theorem dX9_joins_168 : decode cX9_joins 168 = .ok (.bipush 64, 2) := by decide +kernel
theorem dX9_joins_170 : decode cX9_joins 170 = .ok (.iload 10, 2) := by decide +kernel
theorem dX9_joins_172 : decode cX9_joins 172 = .ok (.iload 13, 2) := by decide +kernel
theorem dX9_joins_174 : decode cX9_joins 174 = .ok (.iadd, 1) := by decide +kernel
theorem dX9_joins_175 : decode cX9_joins 175 = .ok (.imul, 1) := by decide +kernel
theorem dX9_joins_176 : decode cX9_joins 176 = .ok (.iload 9, 2) := by decide +kernel
theorem dX9_joins_178 : decode cX9_joins 178 = .ok (.iadd, 1) := by decide +kernel
theorem dX9_joins_179 : decode cX9_joins 179 = .ok (.iload 12, 2) := by decide +kernel
theorem dX9_joins_181 : decode cX9_joins 181 = .ok (.iadd, 1) := by decide +kernel
theorem dX9_joins_182 : decode cX9_joins 182 = .ok (.istore 14, 2) := by decide +kernel
theorem dX9_joins_184 : decode cX9_joins 184 = .ok (.aload_n 0, 1) := by decide +kernel
theorem dX9_joins_185 : decode cX9_joins 185 = .ok (.getfield 33, 3) := by decide +kernel
theorem dX9_joins_188 : decode cX9_joins 188 = .ok (.iload 14, 2) := by decide +kernel
theorem dX9_joins_190 : decode cX9_joins 190 = .ok (.baload, 1) := by decide +kernel
theorem dX9_joins_191 : decode cX9_joins 191 = .ok (.ifCond .ne 47, 3) := by decide +kernel
theorem dX9_joins_194 : decode cX9_joins 194 = .ok (.aload_n 0, 1) := by decide +kernel
theorem dX9_joins_195 : decode cX9_joins 195 = .ok (.getfield 16, 3) := by decide +kernel
theorem dX9_joins_198 : decode cX9_joins 198 = .ok (.sipush 4096, 3) := by decide +kernel
theorem dX9_joins_201 : decode cX9_joins 201 = .ok (.iload_n 1, 1) := by decide +kernel
theorem dX9_joins_202 : decode cX9_joins 202 = .ok (.imul, 1) := by decide +kernel
theorem dX9_joins_203 : decode cX9_joins 203 = .ok (.iload 14, 2) := by decide +kernel
theorem dX9_joins_205 : decode cX9_joins 205 = .ok (.iadd, 1) := by decide +kernel
theorem dX9_joins_206 : decode cX9_joins 206 = .ok (.iaload, 1) := by decide +kernel
theorem dX9_joins_207 : decode cX9_joins 207 = .ok (.iload 6, 2) := by decide +kernel
theorem dX9_joins_209 : decode cX9_joins 209 = .ok (.if_icmp .eq 6, 3) := by decide +kernel
theorem dX9_joins_212 : decode cX9_joins 212 = .ok (.goto 26, 3) := by decide +kernel
theorem dX9_joins_215 : decode cX9_joins 215 = .ok (.aload_n 0, 1) := by decide +kernel
theorem dX9_joins_216 : decode cX9_joins 216 = .ok (.getfield 33, 3) := by decide +kernel
theorem dX9_joins_219 : decode cX9_joins 219 = .ok (.iload 14, 2) := by decide +kernel
theorem dX9_joins_221 : decode cX9_joins 221 = .ok (.iconst 1, 1) := by decide +kernel
theorem dX9_joins_222 : decode cX9_joins 222 = .ok (.bastore, 1) := by decide +kernel
theorem dX9_joins_223 : decode cX9_joins 223 = .ok (.aload_n 0, 1) := by decide +kernel
theorem dX9_joins_224 : decode cX9_joins 224 = .ok (.getfield 61, 3) := by decide +kernel
theorem dX9_joins_227 : decode cX9_joins 227 = .ok (.iload 7, 2) := by decide +kernel
theorem dX9_joins_229 : decode cX9_joins 229 = .ok (.iload 14, 2) := by decide +kernel
theorem dX9_joins_231 : decode cX9_joins 231 = .ok (.iastore, 1) := by decide +kernel
theorem dX9_joins_232 : decode cX9_joins 232 = .ok (.iload 7, 2) := by decide +kernel
theorem dX9_joins_234 : decode cX9_joins 234 = .ok (.iconst 1, 1) := by decide +kernel
theorem dX9_joins_235 : decode cX9_joins 235 = .ok (.iadd, 1) := by decide +kernel
theorem dX9_joins_236 : decode cX9_joins 236 = .ok (.istore 7, 2) := by decide +kernel
theorem dX9_joins_238 : decode cX9_joins 238 = .ok (.iinc 11 1, 3) := by decide +kernel
theorem dX9_joins_241 : decode cX9_joins 241 = .ok (.goto (-154), 3) := by decide +kernel
theorem dX9_joins_244 : decode cX9_joins 244 = .ok (.goto (-197), 3) := by decide +kernel
theorem dX9_joins_247 : decode cX9_joins 247 = .ok (.return_, 1) := by decide +kernel
theorem dX9_flood_0 : decode cX9_flood 0 = .ok (.aload_n 0, 1) := by decide +kernel
theorem dX9_flood_1 : decode cX9_flood 1 = .ok (.iload_n 1, 1) := by decide +kernel
theorem dX9_flood_2 : decode cX9_flood 2 = .ok (.invokevirtual 112, 3) := by decide +kernel
theorem dX9_flood_5 : decode cX9_flood 5 = .ok (.ifCond .eq 13, 3) := by decide +kernel
theorem dX9_flood_8 : decode cX9_flood 8 = .ok (.aload_n 0, 1) := by decide +kernel
theorem dX9_flood_9 : decode cX9_flood 9 = .ok (.iload_n 1, 1) := by decide +kernel
theorem dX9_flood_10 : decode cX9_flood 10 = .ok (.iload_n 2, 1) := by decide +kernel
theorem dX9_flood_11 : decode cX9_flood 11 = .ok (.iload_n 3, 1) := by decide +kernel
theorem dX9_flood_12 : decode cX9_flood 12 = .ok (.invokevirtual 80, 3) := by decide +kernel
theorem dX9_flood_15 : decode cX9_flood 15 = .ok (.ifCond .ne 5, 3) := by decide +kernel
theorem dX9_flood_18 : decode cX9_flood 18 = .ok (.iconst (-1), 1) := by decide +kernel
theorem dX9_flood_19 : decode cX9_flood 19 = .ok (.ireturn, 1) := by decide +kernel
theorem dX9_flood_20 : decode cX9_flood 20 = .ok (.aload_n 0, 1) := by decide +kernel
theorem dX9_flood_21 : decode cX9_flood 21 = .ok (.iload_n 2, 1) := by decide +kernel
theorem dX9_flood_22 : decode cX9_flood 22 = .ok (.iload_n 3, 1) := by decide +kernel
theorem dX9_flood_23 : decode cX9_flood 23 = .ok (.invokevirtual 84, 3) := by decide +kernel
theorem dX9_flood_26 : decode cX9_flood 26 = .ok (.ifCond .ne 5, 3) := by decide +kernel
theorem dX9_flood_29 : decode cX9_flood 29 = .ok (.iconst 0, 1) := by decide +kernel
theorem dX9_flood_30 : decode cX9_flood 30 = .ok (.ireturn, 1) := by decide +kernel
theorem dX9_flood_31 : decode cX9_flood 31 = .ok (.aload_n 0, 1) := by decide +kernel
theorem dX9_flood_32 : decode cX9_flood 32 = .ok (.iload_n 1, 1) := by decide +kernel
theorem dX9_flood_33 : decode cX9_flood 33 = .ok (.iload_n 2, 1) := by decide +kernel
theorem dX9_flood_34 : decode cX9_flood 34 = .ok (.iload_n 3, 1) := by decide +kernel
theorem dX9_flood_35 : decode cX9_flood 35 = .ok (.iload 4, 2) := by decide +kernel
theorem dX9_flood_37 : decode cX9_flood 37 = .ok (.iconst 1, 1) := by decide +kernel
theorem dX9_flood_38 : decode cX9_flood 38 = .ok (.invokevirtual 169, 3) := by decide +kernel
theorem dX9_flood_41 : decode cX9_flood 41 = .ok (.iconst 0, 1) := by decide +kernel
theorem dX9_flood_42 : decode cX9_flood 42 = .ok (.istore 5, 2) := by decide +kernel
theorem dX9_flood_44 : decode cX9_flood 44 = .ok (.iload 5, 2) := by decide +kernel
theorem dX9_flood_46 : decode cX9_flood 46 = .ok (.sipush 4096, 3) := by decide +kernel
theorem dX9_flood_49 : decode cX9_flood 49 = .ok (.if_icmp .ge 31, 3) := by decide +kernel
theorem dX9_flood_52 : decode cX9_flood 52 = .ok (.aload_n 0, 1) := by decide +kernel
theorem dX9_flood_53 : decode cX9_flood 53 = .ok (.getfield 37, 3) := by decide +kernel
theorem dX9_flood_56 : decode cX9_flood 56 = .ok (.iload 5, 2) := by decide +kernel
theorem dX9_flood_58 : decode cX9_flood 58 = .ok (.aload_n 0, 1) := by decide +kernel
theorem dX9_flood_59 : decode cX9_flood 59 = .ok (.getfield 26, 3) := by decide +kernel
theorem dX9_flood_62 : decode cX9_flood 62 = .ok (.iastore, 1) := by decide +kernel
theorem dX9_flood_63 : decode cX9_flood 63 = .ok (.aload_n 0, 1) := by decide +kernel
theorem dX9_flood_64 : decode cX9_flood 64 = .ok (.getfield 40, 3) := by decide +kernel
theorem dX9_flood_67 : decode cX9_flood 67 = .ok (.iload 5, 2) := by decide +kernel
theorem dX9_flood_69 : decode cX9_flood 69 = .ok (.aload_n 0, 1) := by decide +kernel
theorem dX9_flood_70 : decode cX9_flood 70 = .ok (.getfield 19, 3) := by decide +kernel
theorem dX9_flood_73 : decode cX9_flood 73 = .ok (.iastore, 1) := by decide +kernel
theorem dX9_flood_74 : decode cX9_flood 74 = .ok (.iinc 5 1, 3) := by decide +kernel
theorem dX9_flood_77 : decode cX9_flood 77 = .ok (.goto (-33), 3) := by decide +kernel
theorem dX9_flood_80 : decode cX9_flood 80 = .ok (.aload_n 0, 1) := by decide +kernel
theorem dX9_flood_81 : decode cX9_flood 81 = .ok (.iload_n 1, 1) := by decide +kernel
theorem dX9_flood_82 : decode cX9_flood 82 = .ok (.invokevirtual 132, 3) := by decide +kernel
theorem dX9_flood_85 : decode cX9_flood 85 = .ok (.ireturn, 1) := by decide +kernel
theorem dX9_region_0 : decode cX9_region 0 = .ok (.aload_n 0, 1) := by decide +kernel
theorem dX9_region_1 : decode cX9_region 1 = .ok (.iload_n 1, 1) := by decide +kernel
theorem dX9_region_2 : decode cX9_region 2 = .ok (.invokevirtual 112, 3) := by decide +kernel
theorem dX9_region_5 : decode cX9_region 5 = .ok (.ifCond .eq 13, 3) := by decide +kernel
theorem dX9_region_8 : decode cX9_region 8 = .ok (.aload_n 0, 1) := by decide +kernel
theorem dX9_region_9 : decode cX9_region 9 = .ok (.iload_n 1, 1) := by decide +kernel
theorem dX9_region_10 : decode cX9_region 10 = .ok (.iload_n 2, 1) := by decide +kernel
theorem dX9_region_11 : decode cX9_region 11 = .ok (.iload_n 3, 1) := by decide +kernel
theorem dX9_region_12 : decode cX9_region 12 = .ok (.invokevirtual 80, 3) := by decide +kernel
theorem dX9_region_15 : decode cX9_region 15 = .ok (.ifCond .ne 5, 3) := by decide +kernel
theorem dX9_region_18 : decode cX9_region 18 = .ok (.iconst (-1), 1) := by decide +kernel
theorem dX9_region_19 : decode cX9_region 19 = .ok (.ireturn, 1) := by decide +kernel
theorem dX9_region_20 : decode cX9_region 20 = .ok (.aload_n 0, 1) := by decide +kernel
theorem dX9_region_21 : decode cX9_region 21 = .ok (.iload_n 1, 1) := by decide +kernel
theorem dX9_region_22 : decode cX9_region 22 = .ok (.iload_n 2, 1) := by decide +kernel
theorem dX9_region_23 : decode cX9_region 23 = .ok (.iload_n 3, 1) := by decide +kernel
theorem dX9_region_24 : decode cX9_region 24 = .ok (.iload 4, 2) := by decide +kernel
theorem dX9_region_26 : decode cX9_region 26 = .ok (.iconst 0, 1) := by decide +kernel
theorem dX9_region_27 : decode cX9_region 27 = .ok (.invokevirtual 169, 3) := by decide +kernel
theorem dX9_region_30 : decode cX9_region 30 = .ok (.iconst 0, 1) := by decide +kernel
theorem dX9_region_31 : decode cX9_region 31 = .ok (.istore 5, 2) := by decide +kernel
theorem dX9_region_33 : decode cX9_region 33 = .ok (.iconst 0, 1) := by decide +kernel
theorem dX9_region_34 : decode cX9_region 34 = .ok (.istore 6, 2) := by decide +kernel
theorem dX9_region_36 : decode cX9_region 36 = .ok (.iload 6, 2) := by decide +kernel
theorem dX9_region_38 : decode cX9_region 38 = .ok (.sipush 4096, 3) := by decide +kernel
theorem dX9_region_41 : decode cX9_region 41 = .ok (.if_icmp .ge 29, 3) := by decide +kernel
theorem dX9_region_44 : decode cX9_region 44 = .ok (.iload 5, 2) := by decide +kernel
theorem dX9_region_46 : decode cX9_region 46 = .ok (.aload_n 0, 1) := by decide +kernel
theorem dX9_region_47 : decode cX9_region 47 = .ok (.getfield 33, 3) := by decide +kernel
theorem dX9_region_50 : decode cX9_region 50 = .ok (.iload 6, 2) := by decide +kernel
theorem dX9_region_52 : decode cX9_region 52 = .ok (.baload, 1) := by decide +kernel
theorem dX9_region_53 : decode cX9_region 53 = .ok (.ifCond .eq 7, 3) := by decide +kernel
theorem dX9_region_56 : decode cX9_region 56 = .ok (.iconst 1, 1) := by decide +kernel
theorem dX9_region_57 : decode cX9_region 57 = .ok (.goto 4, 3) := by decide +kernel
theorem dX9_region_60 : decode cX9_region 60 = .ok (.iconst 0, 1) := by decide +kernel
theorem dX9_region_61 : decode cX9_region 61 = .ok (.iadd, 1) := by decide +kernel
theorem dX9_region_62 : decode cX9_region 62 = .ok (.istore 5, 2) := by decide +kernel
theorem dX9_region_64 : decode cX9_region 64 = .ok (.iinc 6 1, 3) := by decide +kernel
theorem dX9_region_67 : decode cX9_region 67 = .ok (.goto (-31), 3) := by decide +kernel
theorem dX9_region_70 : decode cX9_region 70 = .ok (.iload 5, 2) := by decide +kernel
theorem dX9_region_72 : decode cX9_region 72 = .ok (.ireturn, 1) := by decide +kernel
theorem dX9_isPlace_0 : decode cX9_isPlace 0 = .ok (.iload_n 0, 1) := by decide +kernel
theorem dX9_isPlace_1 : decode cX9_isPlace 1 = .ok (.sipush 200, 3) := by decide +kernel
theorem dX9_isPlace_4 : decode cX9_isPlace 4 = .ok (.invokestatic 116, 3) := by decide +kernel
theorem dX9_isPlace_7 : decode cX9_isPlace 7 = .ok (.ifCond .eq 17, 3) := by decide +kernel
theorem dX9_isPlace_10 : decode cX9_isPlace 10 = .ok (.iload_n 1, 1) := by decide +kernel
theorem dX9_isPlace_11 : decode cX9_isPlace 11 = .ok (.sipush 200, 3) := by decide +kernel
theorem dX9_isPlace_14 : decode cX9_isPlace 14 = .ok (.invokestatic 116, 3) := by decide +kernel
theorem dX9_isPlace_17 : decode cX9_isPlace 17 = .ok (.ifCond .eq 7, 3) := by decide +kernel
theorem dX9_isPlace_20 : decode cX9_isPlace 20 = .ok (.iconst 1, 1) := by decide +kernel
theorem dX9_isPlace_21 : decode cX9_isPlace 21 = .ok (.goto 4, 3) := by decide +kernel
theorem dX9_isPlace_24 : decode cX9_isPlace 24 = .ok (.iconst 0, 1) := by decide +kernel
theorem dX9_isPlace_25 : decode cX9_isPlace 25 = .ok (.ireturn, 1) := by decide +kernel
theorem dX9_copy_0 : decode cX9_copy 0 = .ok (.aload_n 0, 1) := by decide +kernel
theorem dX9_copy_1 : decode cX9_copy 1 = .ok (.iload_n 1, 1) := by decide +kernel
theorem dX9_copy_2 : decode cX9_copy 2 = .ok (.invokevirtual 112, 3) := by decide +kernel
theorem dX9_copy_5 : decode cX9_copy 5 = .ok (.ifCond .eq 54, 3) := by decide +kernel
theorem dX9_copy_8 : decode cX9_copy 8 = .ok (.aload_n 0, 1) := by decide +kernel
theorem dX9_copy_9 : decode cX9_copy 9 = .ok (.iload 6, 2) := by decide +kernel
theorem dX9_copy_11 : decode cX9_copy 11 = .ok (.invokevirtual 112, 3) := by decide +kernel
theorem dX9_copy_14 : decode cX9_copy 14 = .ok (.ifCond .eq 45, 3) := by decide +kernel
theorem dX9_copy_17 : decode cX9_copy 17 = .ok (.iload 4, 2) := by decide +kernel
theorem dX9_copy_19 : decode cX9_copy 19 = .ok (.ifCond .lt 40, 3) := by decide +kernel
theorem dX9_copy_22 : decode cX9_copy 22 = .ok (.iload 4, 2) := by decide +kernel
theorem dX9_copy_24 : decode cX9_copy 24 = .ok (.bipush 64, 2) := by decide +kernel
theorem dX9_copy_26 : decode cX9_copy 26 = .ok (.if_icmp .gt 33, 3) := by decide +kernel
theorem dX9_copy_29 : decode cX9_copy 29 = .ok (.iload 5, 2) := by decide +kernel
theorem dX9_copy_31 : decode cX9_copy 31 = .ok (.ifCond .lt 28, 3) := by decide +kernel
theorem dX9_copy_34 : decode cX9_copy 34 = .ok (.iload 5, 2) := by decide +kernel
theorem dX9_copy_36 : decode cX9_copy 36 = .ok (.bipush 64, 2) := by decide +kernel
theorem dX9_copy_38 : decode cX9_copy 38 = .ok (.if_icmp .gt 21, 3) := by decide +kernel
theorem dX9_copy_41 : decode cX9_copy 41 = .ok (.iload_n 2, 1) := by decide +kernel
theorem dX9_copy_42 : decode cX9_copy 42 = .ok (.iload_n 3, 1) := by decide +kernel
theorem dX9_copy_43 : decode cX9_copy 43 = .ok (.invokestatic 173, 3) := by decide +kernel
theorem dX9_copy_46 : decode cX9_copy 46 = .ok (.ifCond .eq 13, 3) := by decide +kernel
theorem dX9_copy_49 : decode cX9_copy 49 = .ok (.iload 7, 2) := by decide +kernel
theorem dX9_copy_51 : decode cX9_copy 51 = .ok (.iload 8, 2) := by decide +kernel
theorem dX9_copy_53 : decode cX9_copy 53 = .ok (.invokestatic 173, 3) := by decide +kernel
theorem dX9_copy_56 : decode cX9_copy 56 = .ok (.ifCond .ne 5, 3) := by decide +kernel
theorem dX9_copy_59 : decode cX9_copy 59 = .ok (.iconst (-1), 1) := by decide +kernel
theorem dX9_copy_60 : decode cX9_copy 60 = .ok (.ireturn, 1) := by decide +kernel
theorem dX9_copy_61 : decode cX9_copy 61 = .ok (.aload_n 0, 1) := by decide +kernel
theorem dX9_copy_62 : decode cX9_copy 62 = .ok (.invokevirtual 122, 3) := by decide +kernel
theorem dX9_copy_65 : decode cX9_copy 65 = .ok (.iconst 0, 1) := by decide +kernel
theorem dX9_copy_66 : decode cX9_copy 66 = .ok (.istore 9, 2) := by decide +kernel
theorem dX9_copy_68 : decode cX9_copy 68 = .ok (.iload 9, 2) := by decide +kernel
theorem dX9_copy_70 : decode cX9_copy 70 = .ok (.iload 5, 2) := by decide +kernel
theorem dX9_copy_72 : decode cX9_copy 72 = .ok (.if_icmp .ge 78, 3) := by decide +kernel
theorem dX9_copy_75 : decode cX9_copy 75 = .ok (.iconst 0, 1) := by decide +kernel
theorem dX9_copy_76 : decode cX9_copy 76 = .ok (.istore 10, 2) := by decide +kernel
theorem dX9_copy_78 : decode cX9_copy 78 = .ok (.iload 10, 2) := by decide +kernel
theorem dX9_copy_80 : decode cX9_copy 80 = .ok (.iload 4, 2) := by decide +kernel
theorem dX9_copy_82 : decode cX9_copy 82 = .ok (.if_icmp .ge 62, 3) := by decide +kernel
theorem dX9_copy_85 : decode cX9_copy 85 = .ok (.aload_n 0, 1) := by decide +kernel
theorem dX9_copy_86 : decode cX9_copy 86 = .ok (.iload_n 1, 1) := by decide +kernel
theorem dX9_copy_87 : decode cX9_copy 87 = .ok (.iload_n 2, 1) := by decide +kernel
theorem dX9_copy_88 : decode cX9_copy 88 = .ok (.iload 10, 2) := by decide +kernel
theorem dX9_copy_90 : decode cX9_copy 90 = .ok (.iadd, 1) := by decide +kernel
theorem dX9_copy_91 : decode cX9_copy 91 = .ok (.iload_n 3, 1) := by decide +kernel
theorem dX9_copy_92 : decode cX9_copy 92 = .ok (.iload 9, 2) := by decide +kernel
theorem dX9_copy_94 : decode cX9_copy 94 = .ok (.iadd, 1) := by decide +kernel
theorem dX9_copy_95 : decode cX9_copy 95 = .ok (.invokevirtual 80, 3) := by decide +kernel
theorem dX9_copy_98 : decode cX9_copy 98 = .ok (.ifCond .eq 40, 3) := by decide +kernel
theorem dX9_copy_101 : decode cX9_copy 101 = .ok (.aload_n 0, 1) := by decide +kernel
theorem dX9_copy_102 : decode cX9_copy 102 = .ok (.iload 6, 2) := by decide +kernel
theorem dX9_copy_104 : decode cX9_copy 104 = .ok (.iload 7, 2) := by decide +kernel
theorem dX9_copy_106 : decode cX9_copy 106 = .ok (.iload 10, 2) := by decide +kernel
theorem dX9_copy_108 : decode cX9_copy 108 = .ok (.iadd, 1) := by decide +kernel
theorem dX9_copy_109 : decode cX9_copy 109 = .ok (.iload 8, 2) := by decide +kernel
theorem dX9_copy_111 : decode cX9_copy 111 = .ok (.iload 9, 2) := by decide +kernel
theorem dX9_copy_113 : decode cX9_copy 113 = .ok (.iadd, 1) := by decide +kernel
theorem dX9_copy_114 : decode cX9_copy 114 = .ok (.aload_n 0, 1) := by decide +kernel
theorem dX9_copy_115 : decode cX9_copy 115 = .ok (.getfield 16, 3) := by decide +kernel
theorem dX9_copy_118 : decode cX9_copy 118 = .ok (.iload_n 1, 1) := by decide +kernel
theorem dX9_copy_119 : decode cX9_copy 119 = .ok (.iload_n 2, 1) := by decide +kernel
theorem dX9_copy_120 : decode cX9_copy 120 = .ok (.iload 10, 2) := by decide +kernel
theorem dX9_copy_122 : decode cX9_copy 122 = .ok (.iadd, 1) := by decide +kernel
theorem dX9_copy_123 : decode cX9_copy 123 = .ok (.iload_n 3, 1) := by decide +kernel
theorem dX9_copy_124 : decode cX9_copy 124 = .ok (.iload 9, 2) := by decide +kernel
theorem dX9_copy_126 : decode cX9_copy 126 = .ok (.iadd, 1) := by decide +kernel
theorem dX9_copy_127 : decode cX9_copy 127 = .ok (.invokestatic 166, 3) := by decide +kernel
theorem dX9_copy_130 : decode cX9_copy 130 = .ok (.iaload, 1) := by decide +kernel
theorem dX9_copy_131 : decode cX9_copy 131 = .ok (.aload_n 0, 1) := by decide +kernel
theorem dX9_copy_132 : decode cX9_copy 132 = .ok (.getfield 26, 3) := by decide +kernel
theorem dX9_copy_135 : decode cX9_copy 135 = .ok (.invokevirtual 128, 3) := by decide +kernel
theorem dX9_copy_138 : decode cX9_copy 138 = .ok (.iinc 10 1, 3) := by decide +kernel
theorem dX9_copy_141 : decode cX9_copy 141 = .ok (.goto (-63), 3) := by decide +kernel
theorem dX9_copy_144 : decode cX9_copy 144 = .ok (.iinc 9 1, 3) := by decide +kernel
theorem dX9_copy_147 : decode cX9_copy 147 = .ok (.goto (-79), 3) := by decide +kernel
theorem dX9_copy_150 : decode cX9_copy 150 = .ok (.aload_n 0, 1) := by decide +kernel
theorem dX9_copy_151 : decode cX9_copy 151 = .ok (.iload 6, 2) := by decide +kernel
theorem dX9_copy_153 : decode cX9_copy 153 = .ok (.invokevirtual 132, 3) := by decide +kernel
theorem dX9_copy_156 : decode cX9_copy 156 = .ok (.ireturn, 1) := by decide +kernel
theorem dX9_stretch_0 : decode cX9_stretch 0 = .ok (.aload_n 0, 1) := by decide +kernel
theorem dX9_stretch_1 : decode cX9_stretch 1 = .ok (.iload_n 1, 1) := by decide +kernel
theorem dX9_stretch_2 : decode cX9_stretch 2 = .ok (.invokevirtual 112, 3) := by decide +kernel
theorem dX9_stretch_5 : decode cX9_stretch 5 = .ok (.ifCond .eq 82, 3) := by decide +kernel
theorem dX9_stretch_8 : decode cX9_stretch 8 = .ok (.aload_n 0, 1) := by decide +kernel
theorem dX9_stretch_9 : decode cX9_stretch 9 = .ok (.iload 6, 2) := by decide +kernel
theorem dX9_stretch_11 : decode cX9_stretch 11 = .ok (.invokevirtual 112, 3) := by decide +kernel
theorem dX9_stretch_14 : decode cX9_stretch 14 = .ok (.ifCond .eq 73, 3) := by decide +kernel
theorem dX9_stretch_17 : decode cX9_stretch 17 = .ok (.iload 4, 2) := by decide +kernel
theorem dX9_stretch_19 : decode cX9_stretch 19 = .ok (.iconst 1, 1) := by decide +kernel
theorem dX9_stretch_20 : decode cX9_stretch 20 = .ok (.if_icmp .lt 67, 3) := by decide +kernel
theorem dX9_stretch_23 : decode cX9_stretch 23 = .ok (.iload 4, 2) := by decide +kernel
theorem dX9_stretch_25 : decode cX9_stretch 25 = .ok (.bipush 64, 2) := by decide +kernel
theorem dX9_stretch_27 : decode cX9_stretch 27 = .ok (.if_icmp .gt 60, 3) := by decide +kernel
theorem dX9_stretch_30 : decode cX9_stretch 30 = .ok (.iload 5, 2) := by decide +kernel
theorem dX9_stretch_32 : decode cX9_stretch 32 = .ok (.iconst 1, 1) := by decide +kernel
theorem dX9_stretch_33 : decode cX9_stretch 33 = .ok (.if_icmp .lt 54, 3) := by decide +kernel
theorem dX9_stretch_36 : decode cX9_stretch 36 = .ok (.iload 5, 2) := by decide +kernel
theorem dX9_stretch_38 : decode cX9_stretch 38 = .ok (.bipush 64, 2) := by decide +kernel
theorem dX9_stretch_40 : decode cX9_stretch 40 = .ok (.if_icmp .gt 47, 3) := by decide +kernel
theorem dX9_stretch_43 : decode cX9_stretch 43 = .ok (.iload 9, 2) := by decide +kernel
theorem dX9_stretch_45 : decode cX9_stretch 45 = .ok (.iconst 1, 1) := by decide +kernel
theorem dX9_stretch_46 : decode cX9_stretch 46 = .ok (.if_icmp .lt 41, 3) := by decide +kernel
theorem dX9_stretch_49 : decode cX9_stretch 49 = .ok (.iload 9, 2) := by decide +kernel
theorem dX9_stretch_51 : decode cX9_stretch 51 = .ok (.bipush 64, 2) := by decide +kernel
theorem dX9_stretch_53 : decode cX9_stretch 53 = .ok (.if_icmp .gt 34, 3) := by decide +kernel
theorem dX9_stretch_56 : decode cX9_stretch 56 = .ok (.iload 10, 2) := by decide +kernel
theorem dX9_stretch_58 : decode cX9_stretch 58 = .ok (.iconst 1, 1) := by decide +kernel
theorem dX9_stretch_59 : decode cX9_stretch 59 = .ok (.if_icmp .lt 28, 3) := by decide +kernel
theorem dX9_stretch_62 : decode cX9_stretch 62 = .ok (.iload 10, 2) := by decide +kernel
theorem dX9_stretch_64 : decode cX9_stretch 64 = .ok (.bipush 64, 2) := by decide +kernel
theorem dX9_stretch_66 : decode cX9_stretch 66 = .ok (.if_icmp .gt 21, 3) := by decide +kernel
theorem dX9_stretch_69 : decode cX9_stretch 69 = .ok (.iload_n 2, 1) := by decide +kernel
theorem dX9_stretch_70 : decode cX9_stretch 70 = .ok (.iload_n 3, 1) := by decide +kernel
theorem dX9_stretch_71 : decode cX9_stretch 71 = .ok (.invokestatic 173, 3) := by decide +kernel
theorem dX9_stretch_74 : decode cX9_stretch 74 = .ok (.ifCond .eq 13, 3) := by decide +kernel
theorem dX9_stretch_77 : decode cX9_stretch 77 = .ok (.iload 7, 2) := by decide +kernel
theorem dX9_stretch_79 : decode cX9_stretch 79 = .ok (.iload 8, 2) := by decide +kernel
theorem dX9_stretch_81 : decode cX9_stretch 81 = .ok (.invokestatic 173, 3) := by decide +kernel
theorem dX9_stretch_84 : decode cX9_stretch 84 = .ok (.ifCond .ne 5, 3) := by decide +kernel
theorem dX9_stretch_87 : decode cX9_stretch 87 = .ok (.iconst (-1), 1) := by decide +kernel
theorem dX9_stretch_88 : decode cX9_stretch 88 = .ok (.ireturn, 1) := by decide +kernel
theorem dX9_stretch_89 : decode cX9_stretch 89 = .ok (.aload_n 0, 1) := by decide +kernel
theorem dX9_stretch_90 : decode cX9_stretch 90 = .ok (.invokevirtual 122, 3) := by decide +kernel
theorem dX9_stretch_93 : decode cX9_stretch 93 = .ok (.iconst 0, 1) := by decide +kernel
theorem dX9_stretch_94 : decode cX9_stretch 94 = .ok (.istore 11, 2) := by decide +kernel
theorem dX9_stretch_96 : decode cX9_stretch 96 = .ok (.iload 11, 2) := by decide +kernel
theorem dX9_stretch_98 : decode cX9_stretch 98 = .ok (.iload 10, 2) := by decide +kernel
theorem dX9_stretch_100 : decode cX9_stretch 100 = .ok (.if_icmp .ge 94, 3) := by decide +kernel
theorem dX9_stretch_103 : decode cX9_stretch 103 = .ok (.iconst 0, 1) := by decide +kernel
theorem dX9_stretch_104 : decode cX9_stretch 104 = .ok (.istore 12, 2) := by decide +kernel
theorem dX9_stretch_106 : decode cX9_stretch 106 = .ok (.iload 12, 2) := by decide +kernel
theorem dX9_stretch_108 : decode cX9_stretch 108 = .ok (.iload 9, 2) := by decide +kernel
theorem dX9_stretch_110 : decode cX9_stretch 110 = .ok (.if_icmp .ge 78, 3) := by decide +kernel
theorem dX9_stretch_113 : decode cX9_stretch 113 = .ok (.iload_n 2, 1) := by decide +kernel
theorem dX9_stretch_114 : decode cX9_stretch 114 = .ok (.iload 12, 2) := by decide +kernel
theorem dX9_stretch_116 : decode cX9_stretch 116 = .ok (.iload 4, 2) := by decide +kernel
theorem dX9_stretch_118 : decode cX9_stretch 118 = .ok (.imul, 1) := by decide +kernel
theorem dX9_stretch_119 : decode cX9_stretch 119 = .ok (.iload 9, 2) := by decide +kernel
theorem dX9_stretch_121 : decode cX9_stretch 121 = .ok (.idiv, 1) := by decide +kernel
theorem dX9_stretch_122 : decode cX9_stretch 122 = .ok (.iadd, 1) := by decide +kernel
theorem dX9_stretch_123 : decode cX9_stretch 123 = .ok (.istore 13, 2) := by decide +kernel
theorem dX9_stretch_125 : decode cX9_stretch 125 = .ok (.iload_n 3, 1) := by decide +kernel
theorem dX9_stretch_126 : decode cX9_stretch 126 = .ok (.iload 11, 2) := by decide +kernel
theorem dX9_stretch_128 : decode cX9_stretch 128 = .ok (.iload 5, 2) := by decide +kernel
theorem dX9_stretch_130 : decode cX9_stretch 130 = .ok (.imul, 1) := by decide +kernel
theorem dX9_stretch_131 : decode cX9_stretch 131 = .ok (.iload 10, 2) := by decide +kernel
theorem dX9_stretch_133 : decode cX9_stretch 133 = .ok (.idiv, 1) := by decide +kernel
theorem dX9_stretch_134 : decode cX9_stretch 134 = .ok (.iadd, 1) := by decide +kernel
theorem dX9_stretch_135 : decode cX9_stretch 135 = .ok (.istore 14, 2) := by decide +kernel
theorem dX9_stretch_137 : decode cX9_stretch 137 = .ok (.aload_n 0, 1) := by decide +kernel
theorem dX9_stretch_138 : decode cX9_stretch 138 = .ok (.iload_n 1, 1) := by decide +kernel
theorem dX9_stretch_139 : decode cX9_stretch 139 = .ok (.iload 13, 2) := by decide +kernel
theorem dX9_stretch_141 : decode cX9_stretch 141 = .ok (.iload 14, 2) := by decide +kernel
theorem dX9_stretch_143 : decode cX9_stretch 143 = .ok (.invokevirtual 80, 3) := by decide +kernel
theorem dX9_stretch_146 : decode cX9_stretch 146 = .ok (.ifCond .eq 36, 3) := by decide +kernel
theorem dX9_stretch_149 : decode cX9_stretch 149 = .ok (.aload_n 0, 1) := by decide +kernel
theorem dX9_stretch_150 : decode cX9_stretch 150 = .ok (.iload 6, 2) := by decide +kernel
theorem dX9_stretch_152 : decode cX9_stretch 152 = .ok (.iload 7, 2) := by decide +kernel
theorem dX9_stretch_154 : decode cX9_stretch 154 = .ok (.iload 12, 2) := by decide +kernel
theorem dX9_stretch_156 : decode cX9_stretch 156 = .ok (.iadd, 1) := by decide +kernel
theorem dX9_stretch_157 : decode cX9_stretch 157 = .ok (.iload 8, 2) := by decide +kernel
theorem dX9_stretch_159 : decode cX9_stretch 159 = .ok (.iload 11, 2) := by decide +kernel
theorem dX9_stretch_161 : decode cX9_stretch 161 = .ok (.iadd, 1) := by decide +kernel
theorem dX9_stretch_162 : decode cX9_stretch 162 = .ok (.aload_n 0, 1) := by decide +kernel
theorem dX9_stretch_163 : decode cX9_stretch 163 = .ok (.getfield 16, 3) := by decide +kernel
theorem dX9_stretch_166 : decode cX9_stretch 166 = .ok (.iload_n 1, 1) := by decide +kernel
theorem dX9_stretch_167 : decode cX9_stretch 167 = .ok (.iload 13, 2) := by decide +kernel
theorem dX9_stretch_169 : decode cX9_stretch 169 = .ok (.iload 14, 2) := by decide +kernel
theorem dX9_stretch_171 : decode cX9_stretch 171 = .ok (.invokestatic 166, 3) := by decide +kernel
theorem dX9_stretch_174 : decode cX9_stretch 174 = .ok (.iaload, 1) := by decide +kernel
theorem dX9_stretch_175 : decode cX9_stretch 175 = .ok (.aload_n 0, 1) := by decide +kernel
theorem dX9_stretch_176 : decode cX9_stretch 176 = .ok (.getfield 26, 3) := by decide +kernel
theorem dX9_stretch_179 : decode cX9_stretch 179 = .ok (.invokevirtual 128, 3) := by decide +kernel
theorem dX9_stretch_182 : decode cX9_stretch 182 = .ok (.iinc 12 1, 3) := by decide +kernel
theorem dX9_stretch_185 : decode cX9_stretch 185 = .ok (.goto (-79), 3) := by decide +kernel
theorem dX9_stretch_188 : decode cX9_stretch 188 = .ok (.iinc 11 1, 3) := by decide +kernel
theorem dX9_stretch_191 : decode cX9_stretch 191 = .ok (.goto (-95), 3) := by decide +kernel
theorem dX9_stretch_194 : decode cX9_stretch 194 = .ok (.aload_n 0, 1) := by decide +kernel
theorem dX9_stretch_195 : decode cX9_stretch 195 = .ok (.iload 6, 2) := by decide +kernel
theorem dX9_stretch_197 : decode cX9_stretch 197 = .ok (.invokevirtual 132, 3) := by decide +kernel
theorem dX9_stretch_200 : decode cX9_stretch 200 = .ok (.ireturn, 1) := by decide +kernel
theorem dX9_dot_0 : decode cX9_dot 0 = .ok (.aload_n 0, 1) := by decide +kernel
theorem dX9_dot_1 : decode cX9_dot 1 = .ok (.iload_n 1, 1) := by decide +kernel
theorem dX9_dot_2 : decode cX9_dot 2 = .ok (.invokevirtual 112, 3) := by decide +kernel
theorem dX9_dot_5 : decode cX9_dot 5 = .ok (.ifCond .eq 27, 3) := by decide +kernel
theorem dX9_dot_8 : decode cX9_dot 8 = .ok (.aload_n 0, 1) := by decide +kernel
theorem dX9_dot_9 : decode cX9_dot 9 = .ok (.iload_n 1, 1) := by decide +kernel
theorem dX9_dot_10 : decode cX9_dot 10 = .ok (.iload_n 2, 1) := by decide +kernel
theorem dX9_dot_11 : decode cX9_dot 11 = .ok (.iload_n 3, 1) := by decide +kernel
theorem dX9_dot_12 : decode cX9_dot 12 = .ok (.invokevirtual 80, 3) := by decide +kernel
theorem dX9_dot_15 : decode cX9_dot 15 = .ok (.ifCond .eq 17, 3) := by decide +kernel
theorem dX9_dot_18 : decode cX9_dot 18 = .ok (.aload_n 0, 1) := by decide +kernel
theorem dX9_dot_19 : decode cX9_dot 19 = .ok (.getfield 16, 3) := by decide +kernel
theorem dX9_dot_22 : decode cX9_dot 22 = .ok (.iload_n 1, 1) := by decide +kernel
theorem dX9_dot_23 : decode cX9_dot 23 = .ok (.iload_n 2, 1) := by decide +kernel
theorem dX9_dot_24 : decode cX9_dot 24 = .ok (.iload_n 3, 1) := by decide +kernel
theorem dX9_dot_25 : decode cX9_dot 25 = .ok (.invokestatic 166, 3) := by decide +kernel
theorem dX9_dot_28 : decode cX9_dot 28 = .ok (.iaload, 1) := by decide +kernel
theorem dX9_dot_29 : decode cX9_dot 29 = .ok (.goto 4, 3) := by decide +kernel
theorem dX9_dot_32 : decode cX9_dot 32 = .ok (.iconst 0, 1) := by decide +kernel
theorem dX9_dot_33 : decode cX9_dot 33 = .ok (.ireturn, 1) := by decide +kernel
theorem dX9_count_0 : decode cX9_count 0 = .ok (.aload_n 0, 1) := by decide +kernel
theorem dX9_count_1 : decode cX9_count 1 = .ok (.iload_n 1, 1) := by decide +kernel
theorem dX9_count_2 : decode cX9_count 2 = .ok (.invokevirtual 112, 3) := by decide +kernel
theorem dX9_count_5 : decode cX9_count 5 = .ok (.ifCond .ne 5, 3) := by decide +kernel
theorem dX9_count_8 : decode cX9_count 8 = .ok (.iconst (-1), 1) := by decide +kernel
theorem dX9_count_9 : decode cX9_count 9 = .ok (.ireturn, 1) := by decide +kernel
theorem dX9_count_10 : decode cX9_count 10 = .ok (.iconst 0, 1) := by decide +kernel
theorem dX9_count_11 : decode cX9_count 11 = .ok (.istore_n 3, 1) := by decide +kernel
theorem dX9_count_12 : decode cX9_count 12 = .ok (.iconst 0, 1) := by decide +kernel
theorem dX9_count_13 : decode cX9_count 13 = .ok (.istore 4, 2) := by decide +kernel
theorem dX9_count_15 : decode cX9_count 15 = .ok (.iload 4, 2) := by decide +kernel
theorem dX9_count_17 : decode cX9_count 17 = .ok (.aload_n 0, 1) := by decide +kernel
theorem dX9_count_18 : decode cX9_count 18 = .ok (.getfield 13, 3) := by decide +kernel
theorem dX9_count_21 : decode cX9_count 21 = .ok (.iload_n 1, 1) := by decide +kernel
theorem dX9_count_22 : decode cX9_count 22 = .ok (.iaload, 1) := by decide +kernel
theorem dX9_count_23 : decode cX9_count 23 = .ok (.if_icmp .ge 54, 3) := by decide +kernel
theorem dX9_count_26 : decode cX9_count 26 = .ok (.iconst 0, 1) := by decide +kernel
theorem dX9_count_27 : decode cX9_count 27 = .ok (.istore 5, 2) := by decide +kernel
theorem dX9_count_29 : decode cX9_count 29 = .ok (.iload 5, 2) := by decide +kernel
theorem dX9_count_31 : decode cX9_count 31 = .ok (.aload_n 0, 1) := by decide +kernel
theorem dX9_count_32 : decode cX9_count 32 = .ok (.getfield 7, 3) := by decide +kernel
theorem dX9_count_35 : decode cX9_count 35 = .ok (.iload_n 1, 1) := by decide +kernel
theorem dX9_count_36 : decode cX9_count 36 = .ok (.iaload, 1) := by decide +kernel
theorem dX9_count_37 : decode cX9_count 37 = .ok (.if_icmp .ge 34, 3) := by decide +kernel
theorem dX9_count_40 : decode cX9_count 40 = .ok (.iload_n 3, 1) := by decide +kernel
theorem dX9_count_41 : decode cX9_count 41 = .ok (.aload_n 0, 1) := by decide +kernel
theorem dX9_count_42 : decode cX9_count 42 = .ok (.getfield 16, 3) := by decide +kernel
theorem dX9_count_45 : decode cX9_count 45 = .ok (.iload_n 1, 1) := by decide +kernel
theorem dX9_count_46 : decode cX9_count 46 = .ok (.iload 5, 2) := by decide +kernel
theorem dX9_count_48 : decode cX9_count 48 = .ok (.iload 4, 2) := by decide +kernel
theorem dX9_count_50 : decode cX9_count 50 = .ok (.invokestatic 166, 3) := by decide +kernel
theorem dX9_count_53 : decode cX9_count 53 = .ok (.iaload, 1) := by decide +kernel
theorem dX9_count_54 : decode cX9_count 54 = .ok (.iload_n 2, 1) := by decide +kernel
theorem dX9_count_55 : decode cX9_count 55 = .ok (.if_icmp .ne 7, 3) := by decide +kernel
theorem dX9_count_58 : decode cX9_count 58 = .ok (.iconst 1, 1) := by decide +kernel
theorem dX9_count_59 : decode cX9_count 59 = .ok (.goto 4, 3) := by decide +kernel
theorem dX9_count_62 : decode cX9_count 62 = .ok (.iconst 0, 1) := by decide +kernel
theorem dX9_count_63 : decode cX9_count 63 = .ok (.iadd, 1) := by decide +kernel
theorem dX9_count_64 : decode cX9_count 64 = .ok (.istore_n 3, 1) := by decide +kernel
theorem dX9_count_65 : decode cX9_count 65 = .ok (.iinc 5 1, 3) := by decide +kernel
theorem dX9_count_68 : decode cX9_count 68 = .ok (.goto (-39), 3) := by decide +kernel
theorem dX9_count_71 : decode cX9_count 71 = .ok (.iinc 4 1, 3) := by decide +kernel
theorem dX9_count_74 : decode cX9_count 74 = .ok (.goto (-59), 3) := by decide +kernel
theorem dX9_count_77 : decode cX9_count 77 = .ok (.iload_n 3, 1) := by decide +kernel
theorem dX9_count_78 : decode cX9_count 78 = .ok (.ireturn, 1) := by decide +kernel
theorem dX9_differ_0 : decode cX9_differ 0 = .ok (.aload_n 0, 1) := by decide +kernel
theorem dX9_differ_1 : decode cX9_differ 1 = .ok (.iload_n 1, 1) := by decide +kernel
theorem dX9_differ_2 : decode cX9_differ 2 = .ok (.invokevirtual 112, 3) := by decide +kernel
theorem dX9_differ_5 : decode cX9_differ 5 = .ok (.ifCond .eq 41, 3) := by decide +kernel
theorem dX9_differ_8 : decode cX9_differ 8 = .ok (.aload_n 0, 1) := by decide +kernel
theorem dX9_differ_9 : decode cX9_differ 9 = .ok (.iload_n 2, 1) := by decide +kernel
theorem dX9_differ_10 : decode cX9_differ 10 = .ok (.invokevirtual 112, 3) := by decide +kernel
theorem dX9_differ_13 : decode cX9_differ 13 = .ok (.ifCond .eq 33, 3) := by decide +kernel
theorem dX9_differ_16 : decode cX9_differ 16 = .ok (.aload_n 0, 1) := by decide +kernel
theorem dX9_differ_17 : decode cX9_differ 17 = .ok (.getfield 7, 3) := by decide +kernel
theorem dX9_differ_20 : decode cX9_differ 20 = .ok (.iload_n 1, 1) := by decide +kernel
theorem dX9_differ_21 : decode cX9_differ 21 = .ok (.iaload, 1) := by decide +kernel
theorem dX9_differ_22 : decode cX9_differ 22 = .ok (.aload_n 0, 1) := by decide +kernel
theorem dX9_differ_23 : decode cX9_differ 23 = .ok (.getfield 7, 3) := by decide +kernel
theorem dX9_differ_26 : decode cX9_differ 26 = .ok (.iload_n 2, 1) := by decide +kernel
theorem dX9_differ_27 : decode cX9_differ 27 = .ok (.iaload, 1) := by decide +kernel
theorem dX9_differ_28 : decode cX9_differ 28 = .ok (.if_icmp .ne 18, 3) := by decide +kernel
theorem dX9_differ_31 : decode cX9_differ 31 = .ok (.aload_n 0, 1) := by decide +kernel
theorem dX9_differ_32 : decode cX9_differ 32 = .ok (.getfield 13, 3) := by decide +kernel
theorem dX9_differ_35 : decode cX9_differ 35 = .ok (.iload_n 1, 1) := by decide +kernel
theorem dX9_differ_36 : decode cX9_differ 36 = .ok (.iaload, 1) := by decide +kernel
theorem dX9_differ_37 : decode cX9_differ 37 = .ok (.aload_n 0, 1) := by decide +kernel
theorem dX9_differ_38 : decode cX9_differ 38 = .ok (.getfield 13, 3) := by decide +kernel
theorem dX9_differ_41 : decode cX9_differ 41 = .ok (.iload_n 2, 1) := by decide +kernel
theorem dX9_differ_42 : decode cX9_differ 42 = .ok (.iaload, 1) := by decide +kernel
theorem dX9_differ_43 : decode cX9_differ 43 = .ok (.if_icmp .eq 5, 3) := by decide +kernel
theorem dX9_differ_46 : decode cX9_differ 46 = .ok (.iconst (-1), 1) := by decide +kernel
theorem dX9_differ_47 : decode cX9_differ 47 = .ok (.ireturn, 1) := by decide +kernel
theorem dX9_differ_48 : decode cX9_differ 48 = .ok (.iconst 0, 1) := by decide +kernel
theorem dX9_differ_49 : decode cX9_differ 49 = .ok (.istore_n 3, 1) := by decide +kernel
theorem dX9_differ_50 : decode cX9_differ 50 = .ok (.iconst 0, 1) := by decide +kernel
theorem dX9_differ_51 : decode cX9_differ 51 = .ok (.istore 4, 2) := by decide +kernel
theorem dX9_differ_53 : decode cX9_differ 53 = .ok (.iload 4, 2) := by decide +kernel
theorem dX9_differ_55 : decode cX9_differ 55 = .ok (.aload_n 0, 1) := by decide +kernel
theorem dX9_differ_56 : decode cX9_differ 56 = .ok (.getfield 13, 3) := by decide +kernel
theorem dX9_differ_59 : decode cX9_differ 59 = .ok (.iload_n 1, 1) := by decide +kernel
theorem dX9_differ_60 : decode cX9_differ 60 = .ok (.iaload, 1) := by decide +kernel
theorem dX9_differ_61 : decode cX9_differ 61 = .ok (.if_icmp .ge 66, 3) := by decide +kernel
theorem dX9_differ_64 : decode cX9_differ 64 = .ok (.iconst 0, 1) := by decide +kernel
theorem dX9_differ_65 : decode cX9_differ 65 = .ok (.istore 5, 2) := by decide +kernel
theorem dX9_differ_67 : decode cX9_differ 67 = .ok (.iload 5, 2) := by decide +kernel
theorem dX9_differ_69 : decode cX9_differ 69 = .ok (.aload_n 0, 1) := by decide +kernel
theorem dX9_differ_70 : decode cX9_differ 70 = .ok (.getfield 7, 3) := by decide +kernel
theorem dX9_differ_73 : decode cX9_differ 73 = .ok (.iload_n 1, 1) := by decide +kernel
theorem dX9_differ_74 : decode cX9_differ 74 = .ok (.iaload, 1) := by decide +kernel
theorem dX9_differ_75 : decode cX9_differ 75 = .ok (.if_icmp .ge 46, 3) := by decide +kernel
theorem dX9_differ_78 : decode cX9_differ 78 = .ok (.iload_n 3, 1) := by decide +kernel
theorem dX9_differ_79 : decode cX9_differ 79 = .ok (.aload_n 0, 1) := by decide +kernel
theorem dX9_differ_80 : decode cX9_differ 80 = .ok (.getfield 16, 3) := by decide +kernel
theorem dX9_differ_83 : decode cX9_differ 83 = .ok (.iload_n 1, 1) := by decide +kernel
theorem dX9_differ_84 : decode cX9_differ 84 = .ok (.iload 5, 2) := by decide +kernel
theorem dX9_differ_86 : decode cX9_differ 86 = .ok (.iload 4, 2) := by decide +kernel
theorem dX9_differ_88 : decode cX9_differ 88 = .ok (.invokestatic 166, 3) := by decide +kernel
theorem dX9_differ_91 : decode cX9_differ 91 = .ok (.iaload, 1) := by decide +kernel
theorem dX9_differ_92 : decode cX9_differ 92 = .ok (.aload_n 0, 1) := by decide +kernel
theorem dX9_differ_93 : decode cX9_differ 93 = .ok (.getfield 16, 3) := by decide +kernel
theorem dX9_differ_96 : decode cX9_differ 96 = .ok (.iload_n 2, 1) := by decide +kernel
theorem dX9_differ_97 : decode cX9_differ 97 = .ok (.iload 5, 2) := by decide +kernel
theorem dX9_differ_99 : decode cX9_differ 99 = .ok (.iload 4, 2) := by decide +kernel
theorem dX9_differ_101 : decode cX9_differ 101 = .ok (.invokestatic 166, 3) := by decide +kernel
theorem dX9_differ_104 : decode cX9_differ 104 = .ok (.iaload, 1) := by decide +kernel
theorem dX9_differ_105 : decode cX9_differ 105 = .ok (.if_icmp .eq 7, 3) := by decide +kernel
theorem dX9_differ_108 : decode cX9_differ 108 = .ok (.iconst 1, 1) := by decide +kernel
theorem dX9_differ_109 : decode cX9_differ 109 = .ok (.goto 4, 3) := by decide +kernel
theorem dX9_differ_112 : decode cX9_differ 112 = .ok (.iconst 0, 1) := by decide +kernel
theorem dX9_differ_113 : decode cX9_differ 113 = .ok (.iadd, 1) := by decide +kernel
theorem dX9_differ_114 : decode cX9_differ 114 = .ok (.istore_n 3, 1) := by decide +kernel
theorem dX9_differ_115 : decode cX9_differ 115 = .ok (.iinc 5 1, 3) := by decide +kernel
theorem dX9_differ_118 : decode cX9_differ 118 = .ok (.goto (-51), 3) := by decide +kernel
theorem dX9_differ_121 : decode cX9_differ 121 = .ok (.iinc 4 1, 3) := by decide +kernel
theorem dX9_differ_124 : decode cX9_differ 124 = .ok (.goto (-71), 3) := by decide +kernel
theorem dX9_differ_127 : decode cX9_differ 127 = .ok (.iload_n 3, 1) := by decide +kernel
theorem dX9_differ_128 : decode cX9_differ 128 = .ok (.ireturn, 1) := by decide +kernel
theorem dX9_look_0 : decode cX9_look 0 = .ok (.aload_n 0, 1) := by decide +kernel
theorem dX9_look_1 : decode cX9_look 1 = .ok (.iload_n 1, 1) := by decide +kernel
theorem dX9_look_2 : decode cX9_look 2 = .ok (.invokevirtual 112, 3) := by decide +kernel
theorem dX9_look_5 : decode cX9_look 5 = .ok (.ifCond .eq 13, 3) := by decide +kernel
theorem dX9_look_8 : decode cX9_look 8 = .ok (.iload_n 2, 1) := by decide +kernel
theorem dX9_look_9 : decode cX9_look 9 = .ok (.ifCond .lt 9, 3) := by decide +kernel
theorem dX9_look_12 : decode cX9_look 12 = .ok (.iload_n 2, 1) := by decide +kernel
theorem dX9_look_13 : decode cX9_look 13 = .ok (.bipush 9, 2) := by decide +kernel
theorem dX9_look_15 : decode cX9_look 15 = .ok (.if_icmp .le 5, 3) := by decide +kernel
theorem dX9_look_18 : decode cX9_look 18 = .ok (.iconst (-1), 1) := by decide +kernel
theorem dX9_look_19 : decode cX9_look 19 = .ok (.ireturn, 1) := by decide +kernel
theorem dX9_look_20 : decode cX9_look 20 = .ok (.iload_n 2, 1) := by decide +kernel
theorem dX9_look_21 : decode cX9_look 21 = .ok (.iconst 4, 1) := by decide +kernel
theorem dX9_look_22 : decode cX9_look 22 = .ok (.if_icmp .ne 10, 3) := by decide +kernel
theorem dX9_look_25 : decode cX9_look 25 = .ok (.aload_n 0, 1) := by decide +kernel
theorem dX9_look_26 : decode cX9_look 26 = .ok (.getfield 7, 3) := by decide +kernel
theorem dX9_look_29 : decode cX9_look 29 = .ok (.iload_n 1, 1) := by decide +kernel
theorem dX9_look_30 : decode cX9_look 30 = .ok (.iaload, 1) := by decide +kernel
theorem dX9_look_31 : decode cX9_look 31 = .ok (.ireturn, 1) := by decide +kernel
theorem dX9_look_32 : decode cX9_look 32 = .ok (.iload_n 2, 1) := by decide +kernel
theorem dX9_look_33 : decode cX9_look 33 = .ok (.iconst 5, 1) := by decide +kernel
theorem dX9_look_34 : decode cX9_look 34 = .ok (.if_icmp .ne 10, 3) := by decide +kernel
theorem dX9_look_37 : decode cX9_look 37 = .ok (.aload_n 0, 1) := by decide +kernel
theorem dX9_look_38 : decode cX9_look 38 = .ok (.getfield 13, 3) := by decide +kernel
theorem dX9_look_41 : decode cX9_look 41 = .ok (.iload_n 1, 1) := by decide +kernel
theorem dX9_look_42 : decode cX9_look 42 = .ok (.iaload, 1) := by decide +kernel
theorem dX9_look_43 : decode cX9_look 43 = .ok (.ireturn, 1) := by decide +kernel
theorem dX9_look_44 : decode cX9_look 44 = .ok (.iload_n 2, 1) := by decide +kernel
theorem dX9_look_45 : decode cX9_look 45 = .ok (.bipush 6, 2) := by decide +kernel
theorem dX9_look_47 : decode cX9_look 47 = .ok (.if_icmp .ge 7, 3) := by decide +kernel
theorem dX9_look_50 : decode cX9_look 50 = .ok (.iconst (-1), 1) := by decide +kernel
theorem dX9_look_51 : decode cX9_look 51 = .ok (.goto 4, 3) := by decide +kernel
theorem dX9_look_54 : decode cX9_look 54 = .ok (.iconst 0, 1) := by decide +kernel
theorem dX9_look_55 : decode cX9_look 55 = .ok (.istore_n 3, 1) := by decide +kernel
theorem dX9_look_56 : decode cX9_look 56 = .ok (.iconst 0, 1) := by decide +kernel
theorem dX9_look_57 : decode cX9_look 57 = .ok (.istore 4, 2) := by decide +kernel
theorem dX9_look_59 : decode cX9_look 59 = .ok (.iload 4, 2) := by decide +kernel
theorem dX9_look_61 : decode cX9_look 61 = .ok (.aload_n 0, 1) := by decide +kernel
theorem dX9_look_62 : decode cX9_look 62 = .ok (.getfield 13, 3) := by decide +kernel
theorem dX9_look_65 : decode cX9_look 65 = .ok (.iload_n 1, 1) := by decide +kernel
theorem dX9_look_66 : decode cX9_look 66 = .ok (.iaload, 1) := by decide +kernel
theorem dX9_look_67 : decode cX9_look 67 = .ok (.if_icmp .ge 120, 3) := by decide +kernel
theorem dX9_look_70 : decode cX9_look 70 = .ok (.iconst 0, 1) := by decide +kernel
theorem dX9_look_71 : decode cX9_look 71 = .ok (.istore 5, 2) := by decide +kernel
theorem dX9_look_73 : decode cX9_look 73 = .ok (.iload 5, 2) := by decide +kernel
theorem dX9_look_75 : decode cX9_look 75 = .ok (.aload_n 0, 1) := by decide +kernel
theorem dX9_look_76 : decode cX9_look 76 = .ok (.getfield 7, 3) := by decide +kernel
theorem dX9_look_79 : decode cX9_look 79 = .ok (.iload_n 1, 1) := by decide +kernel
theorem dX9_look_80 : decode cX9_look 80 = .ok (.iaload, 1) := by decide +kernel
theorem dX9_look_81 : decode cX9_look 81 = .ok (.if_icmp .ge 100, 3) := by decide +kernel
theorem dX9_look_84 : decode cX9_look 84 = .ok (.aload_n 0, 1) := by decide +kernel
theorem dX9_look_85 : decode cX9_look 85 = .ok (.getfield 16, 3) := by decide +kernel
theorem dX9_look_88 : decode cX9_look 88 = .ok (.iload_n 1, 1) := by decide +kernel
theorem dX9_look_89 : decode cX9_look 89 = .ok (.iload 5, 2) := by decide +kernel
theorem dX9_look_91 : decode cX9_look 91 = .ok (.iload 4, 2) := by decide +kernel
theorem dX9_look_93 : decode cX9_look 93 = .ok (.invokestatic 166, 3) := by decide +kernel
theorem dX9_look_96 : decode cX9_look 96 = .ok (.iaload, 1) := by decide +kernel
theorem dX9_look_97 : decode cX9_look 97 = .ok (.istore 6, 2) := by decide +kernel
theorem dX9_look_99 : decode cX9_look 99 = .ok (.iload_n 2, 1) := by decide +kernel
theorem dX9_look_100 : decode cX9_look 100 = .ok (.iconst 5, 1) := by decide +kernel
theorem dX9_look_101 : decode cX9_look 101 = .ok (.if_icmp .le 18, 3) := by decide +kernel
theorem dX9_look_104 : decode cX9_look 104 = .ok (.iload_n 3, 1) := by decide +kernel
theorem dX9_look_105 : decode cX9_look 105 = .ok (.iload 6, 2) := by decide +kernel
theorem dX9_look_107 : decode cX9_look 107 = .ok (.iload_n 2, 1) := by decide +kernel
theorem dX9_look_108 : decode cX9_look 108 = .ok (.bipush 6, 2) := by decide +kernel
theorem dX9_look_110 : decode cX9_look 110 = .ok (.isub, 1) := by decide +kernel
theorem dX9_look_111 : decode cX9_look 111 = .ok (.invokestatic 88, 3) := by decide +kernel
theorem dX9_look_114 : decode cX9_look 114 = .ok (.iadd, 1) := by decide +kernel
theorem dX9_look_115 : decode cX9_look 115 = .ok (.istore_n 3, 1) := by decide +kernel
theorem dX9_look_116 : decode cX9_look 116 = .ok (.goto 59, 3) := by decide +kernel
theorem dX9_look_119 : decode cX9_look 119 = .ok (.iload 6, 2) := by decide +kernel
theorem dX9_look_121 : decode cX9_look 121 = .ok (.iconst 0, 1) := by decide +kernel
theorem dX9_look_122 : decode cX9_look 122 = .ok (.invokestatic 88, 3) := by decide +kernel
theorem dX9_look_125 : decode cX9_look 125 = .ok (.ifCond .eq 50, 3) := by decide +kernel
theorem dX9_look_128 : decode cX9_look 128 = .ok (.iload_n 2, 1) := by decide +kernel
theorem dX9_look_129 : decode cX9_look 129 = .ok (.iconst 2, 1) := by decide +kernel
theorem dX9_look_130 : decode cX9_look 130 = .ok (.if_icmp .ge 8, 3) := by decide +kernel
theorem dX9_look_133 : decode cX9_look 133 = .ok (.iload 5, 2) := by decide +kernel
theorem dX9_look_135 : decode cX9_look 135 = .ok (.goto 5, 3) := by decide +kernel
theorem dX9_look_138 : decode cX9_look 138 = .ok (.iload 4, 2) := by decide +kernel
theorem dX9_look_140 : decode cX9_look 140 = .ok (.istore 7, 2) := by decide +kernel
theorem dX9_look_142 : decode cX9_look 142 = .ok (.iload_n 3, 1) := by decide +kernel
theorem dX9_look_143 : decode cX9_look 143 = .ok (.iconst (-1), 1) := by decide +kernel
theorem dX9_look_144 : decode cX9_look 144 = .ok (.if_icmp .eq 28, 3) := by decide +kernel
theorem dX9_look_147 : decode cX9_look 147 = .ok (.iload_n 2, 1) := by decide +kernel
theorem dX9_look_148 : decode cX9_look 148 = .ok (.iconst 2, 1) := by decide +kernel
theorem dX9_look_149 : decode cX9_look 149 = .ok (.irem, 1) := by decide +kernel
theorem dX9_look_150 : decode cX9_look 150 = .ok (.ifCond .ne 9, 3) := by decide +kernel
theorem dX9_look_153 : decode cX9_look 153 = .ok (.iload 7, 2) := by decide +kernel
theorem dX9_look_155 : decode cX9_look 155 = .ok (.iload_n 3, 1) := by decide +kernel
theorem dX9_look_156 : decode cX9_look 156 = .ok (.if_icmp .lt 16, 3) := by decide +kernel
theorem dX9_look_159 : decode cX9_look 159 = .ok (.iload_n 2, 1) := by decide +kernel
theorem dX9_look_160 : decode cX9_look 160 = .ok (.iconst 2, 1) := by decide +kernel
theorem dX9_look_161 : decode cX9_look 161 = .ok (.irem, 1) := by decide +kernel
theorem dX9_look_162 : decode cX9_look 162 = .ok (.iconst 1, 1) := by decide +kernel
theorem dX9_look_163 : decode cX9_look 163 = .ok (.if_icmp .ne 12, 3) := by decide +kernel
theorem dX9_look_166 : decode cX9_look 166 = .ok (.iload 7, 2) := by decide +kernel
theorem dX9_look_168 : decode cX9_look 168 = .ok (.iload_n 3, 1) := by decide +kernel
theorem dX9_look_169 : decode cX9_look 169 = .ok (.if_icmp .le 6, 3) := by decide +kernel
theorem dX9_look_172 : decode cX9_look 172 = .ok (.iload 7, 2) := by decide +kernel
theorem dX9_look_174 : decode cX9_look 174 = .ok (.istore_n 3, 1) := by decide +kernel
theorem dX9_look_175 : decode cX9_look 175 = .ok (.iinc 5 1, 3) := by decide +kernel
theorem dX9_look_178 : decode cX9_look 178 = .ok (.goto (-105), 3) := by decide +kernel
theorem dX9_look_181 : decode cX9_look 181 = .ok (.iinc 4 1, 3) := by decide +kernel
theorem dX9_look_184 : decode cX9_look 184 = .ok (.goto (-125), 3) := by decide +kernel
theorem dX9_look_187 : decode cX9_look 187 = .ok (.iload_n 3, 1) := by decide +kernel
theorem dX9_look_188 : decode cX9_look 188 = .ok (.ireturn, 1) := by decide +kernel
theorem dJ6_compare_7cf53_0 : decode cJ6_compare_7cf53 0 = .ok (.iload_n 0, 1) := by decide +kernel
theorem dJ6_compare_7cf53_1 : decode cJ6_compare_7cf53 1 = .ok (.iload_n 1, 1) := by decide +kernel
theorem dJ6_compare_7cf53_2 : decode cJ6_compare_7cf53 2 = .ok (.if_icmp .ge 7, 3) := by decide +kernel
theorem dJ6_compare_7cf53_5 : decode cJ6_compare_7cf53 5 = .ok (.iconst (-1), 1) := by decide +kernel
theorem dJ6_compare_7cf53_6 : decode cJ6_compare_7cf53 6 = .ok (.goto 13, 3) := by decide +kernel
theorem dJ6_compare_7cf53_9 : decode cJ6_compare_7cf53 9 = .ok (.iload_n 0, 1) := by decide +kernel
theorem dJ6_compare_7cf53_10 : decode cJ6_compare_7cf53 10 = .ok (.iload_n 1, 1) := by decide +kernel
theorem dJ6_compare_7cf53_11 : decode cJ6_compare_7cf53 11 = .ok (.if_icmp .ne 7, 3) := by decide +kernel
theorem dJ6_compare_7cf53_14 : decode cJ6_compare_7cf53 14 = .ok (.iconst 0, 1) := by decide +kernel
theorem dJ6_compare_7cf53_15 : decode cJ6_compare_7cf53 15 = .ok (.goto 4, 3) := by decide +kernel
theorem dJ6_compare_7cf53_18 : decode cJ6_compare_7cf53 18 = .ok (.iconst 1, 1) := by decide +kernel
theorem dJ6_compare_7cf53_19 : decode cJ6_compare_7cf53 19 = .ok (.ireturn, 1) := by decide +kernel
theorem dJ9_floorDiv_7cf53_0 : decode cJ9_floorDiv_7cf53 0 = .ok (.iload_n 0, 1) := by decide +kernel
theorem dJ9_floorDiv_7cf53_1 : decode cJ9_floorDiv_7cf53 1 = .ok (.iload_n 1, 1) := by decide +kernel
theorem dJ9_floorDiv_7cf53_2 : decode cJ9_floorDiv_7cf53 2 = .ok (.idiv, 1) := by decide +kernel
theorem dJ9_floorDiv_7cf53_3 : decode cJ9_floorDiv_7cf53 3 = .ok (.istore_n 2, 1) := by decide +kernel
theorem dJ9_floorDiv_7cf53_4 : decode cJ9_floorDiv_7cf53 4 = .ok (.iload_n 0, 1) := by decide +kernel
theorem dJ9_floorDiv_7cf53_5 : decode cJ9_floorDiv_7cf53 5 = .ok (.iload_n 1, 1) := by decide +kernel
theorem dJ9_floorDiv_7cf53_6 : decode cJ9_floorDiv_7cf53 6 = .ok (.ixor, 1) := by decide +kernel
theorem dJ9_floorDiv_7cf53_7 : decode cJ9_floorDiv_7cf53 7 = .ok (.ifCond .ge 14, 3) := by decide +kernel
theorem dJ9_floorDiv_7cf53_10 : decode cJ9_floorDiv_7cf53 10 = .ok (.iload_n 2, 1) := by decide +kernel
theorem dJ9_floorDiv_7cf53_11 : decode cJ9_floorDiv_7cf53 11 = .ok (.iload_n 1, 1) := by decide +kernel
theorem dJ9_floorDiv_7cf53_12 : decode cJ9_floorDiv_7cf53 12 = .ok (.imul, 1) := by decide +kernel
theorem dJ9_floorDiv_7cf53_13 : decode cJ9_floorDiv_7cf53 13 = .ok (.iload_n 0, 1) := by decide +kernel
theorem dJ9_floorDiv_7cf53_14 : decode cJ9_floorDiv_7cf53 14 = .ok (.if_icmp .eq 7, 3) := by decide +kernel
theorem dJ9_floorDiv_7cf53_17 : decode cJ9_floorDiv_7cf53 17 = .ok (.iload_n 2, 1) := by decide +kernel
theorem dJ9_floorDiv_7cf53_18 : decode cJ9_floorDiv_7cf53 18 = .ok (.iconst 1, 1) := by decide +kernel
theorem dJ9_floorDiv_7cf53_19 : decode cJ9_floorDiv_7cf53 19 = .ok (.isub, 1) := by decide +kernel
theorem dJ9_floorDiv_7cf53_20 : decode cJ9_floorDiv_7cf53 20 = .ok (.ireturn, 1) := by decide +kernel
theorem dJ9_floorDiv_7cf53_21 : decode cJ9_floorDiv_7cf53 21 = .ok (.iload_n 2, 1) := by decide +kernel
theorem dJ9_floorDiv_7cf53_22 : decode cJ9_floorDiv_7cf53 22 = .ok (.ireturn, 1) := by decide +kernel
theorem dJ9_abs_0f7a4_0 : decode cJ9_abs_0f7a4 0 = .ok (.iload_n 0, 1) := by decide +kernel
theorem dJ9_abs_0f7a4_1 : decode cJ9_abs_0f7a4 1 = .ok (.ifCond .ge 8, 3) := by decide +kernel
theorem dJ9_abs_0f7a4_4 : decode cJ9_abs_0f7a4 4 = .ok (.iload_n 0, 1) := by decide +kernel
theorem dJ9_abs_0f7a4_5 : decode cJ9_abs_0f7a4 5 = .ok (.ineg, 1) := by decide +kernel
theorem dJ9_abs_0f7a4_6 : decode cJ9_abs_0f7a4 6 = .ok (.goto 4, 3) := by decide +kernel
theorem dJ9_abs_0f7a4_9 : decode cJ9_abs_0f7a4 9 = .ok (.iload_n 0, 1) := by decide +kernel
theorem dJ9_abs_0f7a4_10 : decode cJ9_abs_0f7a4 10 = .ok (.ireturn, 1) := by decide +kernel
theorem dJ9_max_7cf53_0 : decode cJ9_max_7cf53 0 = .ok (.iload_n 0, 1) := by decide +kernel
theorem dJ9_max_7cf53_1 : decode cJ9_max_7cf53 1 = .ok (.iload_n 1, 1) := by decide +kernel
theorem dJ9_max_7cf53_2 : decode cJ9_max_7cf53 2 = .ok (.if_icmp .lt 7, 3) := by decide +kernel
theorem dJ9_max_7cf53_5 : decode cJ9_max_7cf53 5 = .ok (.iload_n 0, 1) := by decide +kernel
theorem dJ9_max_7cf53_6 : decode cJ9_max_7cf53 6 = .ok (.goto 4, 3) := by decide +kernel
theorem dJ9_max_7cf53_9 : decode cJ9_max_7cf53 9 = .ok (.iload_n 1, 1) := by decide +kernel
theorem dJ9_max_7cf53_10 : decode cJ9_max_7cf53 10 = .ok (.ireturn, 1) := by decide +kernel
theorem dJ9_min_7cf53_0 : decode cJ9_min_7cf53 0 = .ok (.iload_n 0, 1) := by decide +kernel
theorem dJ9_min_7cf53_1 : decode cJ9_min_7cf53 1 = .ok (.iload_n 1, 1) := by decide +kernel
theorem dJ9_min_7cf53_2 : decode cJ9_min_7cf53 2 = .ok (.if_icmp .gt 7, 3) := by decide +kernel
theorem dJ9_min_7cf53_5 : decode cJ9_min_7cf53 5 = .ok (.iload_n 0, 1) := by decide +kernel
theorem dJ9_min_7cf53_6 : decode cJ9_min_7cf53 6 = .ok (.goto 4, 3) := by decide +kernel
theorem dJ9_min_7cf53_9 : decode cJ9_min_7cf53 9 = .ok (.iload_n 1, 1) := by decide +kernel
theorem dJ9_min_7cf53_10 : decode cJ9_min_7cf53 10 = .ok (.ireturn, 1) := by decide +kernel
theorem dJ7_fill_53178_0 : decode cJ7_fill_53178 0 = .ok (.iconst 0, 1) := by decide +kernel
theorem dJ7_fill_53178_1 : decode cJ7_fill_53178 1 = .ok (.istore_n 2, 1) := by decide +kernel
theorem dJ7_fill_53178_2 : decode cJ7_fill_53178 2 = .ok (.aload_n 0, 1) := by decide +kernel
theorem dJ7_fill_53178_3 : decode cJ7_fill_53178 3 = .ok (.arraylength, 1) := by decide +kernel
theorem dJ7_fill_53178_4 : decode cJ7_fill_53178 4 = .ok (.istore_n 3, 1) := by decide +kernel
theorem dJ7_fill_53178_5 : decode cJ7_fill_53178 5 = .ok (.iload_n 2, 1) := by decide +kernel
theorem dJ7_fill_53178_6 : decode cJ7_fill_53178 6 = .ok (.iload_n 3, 1) := by decide +kernel
theorem dJ7_fill_53178_7 : decode cJ7_fill_53178 7 = .ok (.if_icmp .ge 13, 3) := by decide +kernel
theorem dJ7_fill_53178_10 : decode cJ7_fill_53178 10 = .ok (.aload_n 0, 1) := by decide +kernel
theorem dJ7_fill_53178_11 : decode cJ7_fill_53178 11 = .ok (.iload_n 2, 1) := by decide +kernel
theorem dJ7_fill_53178_12 : decode cJ7_fill_53178 12 = .ok (.iload_n 1, 1) := by decide +kernel
theorem dJ7_fill_53178_13 : decode cJ7_fill_53178 13 = .ok (.iastore, 1) := by decide +kernel
theorem dJ7_fill_53178_14 : decode cJ7_fill_53178 14 = .ok (.iinc 2 1, 3) := by decide +kernel
theorem dJ7_fill_53178_17 : decode cJ7_fill_53178 17 = .ok (.goto (-12), 3) := by decide +kernel
theorem dJ7_fill_53178_20 : decode cJ7_fill_53178 20 = .ok (.return_, 1) := by decide +kernel
