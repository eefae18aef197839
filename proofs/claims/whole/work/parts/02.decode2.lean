theorem dX5_keeps_19 : decode cX5_keeps 19 = .ok (.iaload, 1) := by decide +kernel
theorem dX5_keeps_20 : decode cX5_keeps 20 = .ok (.iastore, 1) := by decide +kernel
theorem dX5_keeps_21 : decode cX5_keeps 21 = .ok (.iinc 1 1, 3) := by decide +kernel
theorem dX5_keeps_24 : decode cX5_keeps 24 = .ok (.goto (-22), 3) := by decide +kernel
theorem dX5_keeps_27 : decode cX5_keeps 27 = .ok (.return_, 1) := by decide +kernel
theorem dX5_comesBack_0 : decode cX5_comesBack 0 = .ok (.iconst 0, 1) := by decide +kernel
theorem dX5_comesBack_1 : decode cX5_comesBack 1 = .ok (.istore_n 1, 1) := by decide +kernel
theorem dX5_comesBack_2 : decode cX5_comesBack 2 = .ok (.iload_n 1, 1) := by decide +kernel
theorem dX5_comesBack_3 : decode cX5_comesBack 3 = .ok (.sipush 293, 3) := by decide +kernel
theorem dX5_comesBack_6 : decode cX5_comesBack 6 = .ok (.if_icmp .ge 21, 3) := by decide +kernel
theorem dX5_comesBack_9 : decode cX5_comesBack 9 = .ok (.aload_n 0, 1) := by decide +kernel
theorem dX5_comesBack_10 : decode cX5_comesBack 10 = .ok (.getfield 7, 3) := by decide +kernel
theorem dX5_comesBack_13 : decode cX5_comesBack 13 = .ok (.iload_n 1, 1) := by decide +kernel
theorem dX5_comesBack_14 : decode cX5_comesBack 14 = .ok (.aload_n 0, 1) := by decide +kernel
theorem dX5_comesBack_15 : decode cX5_comesBack 15 = .ok (.getfield 13, 3) := by decide +kernel
theorem dX5_comesBack_18 : decode cX5_comesBack 18 = .ok (.iload_n 1, 1) := by decide +kernel
theorem dX5_comesBack_19 : decode cX5_comesBack 19 = .ok (.iaload, 1) := by decide +kernel
theorem dX5_comesBack_20 : decode cX5_comesBack 20 = .ok (.iastore, 1) := by decide +kernel
theorem dX5_comesBack_21 : decode cX5_comesBack 21 = .ok (.iinc 1 1, 3) := by decide +kernel
theorem dX5_comesBack_24 : decode cX5_comesBack 24 = .ok (.goto (-22), 3) := by decide +kernel
theorem dX5_comesBack_27 : decode cX5_comesBack 27 = .ok (.return_, 1) := by decide +kernel
theorem dX5_isSort_0 : decode cX5_isSort 0 = .ok (.iload_n 0, 1) := by decide +kernel
theorem dX5_isSort_1 : decode cX5_isSort 1 = .ok (.i2l, 1) := by decide +kernel
theorem dX5_isSort_2 : decode cX5_isSort 2 = .ok (.lconst 0, 1) := by decide +kernel
theorem dX5_isSort_3 : decode cX5_isSort 3 = .ok (.ldc2_w 56, 3) := by decide +kernel
theorem dX5_isSort_6 : decode cX5_isSort 6 = .ok (.invokestatic 58, 3) := by decide +kernel
theorem dX5_isSort_9 : decode cX5_isSort 9 = .ok (.ireturn, 1) := by decide +kernel
theorem dX5_sortBy_0 : decode cX5_sortBy 0 = .ok (.iload_n 0, 1) := by decide +kernel
theorem dX5_sortBy_1 : decode cX5_sortBy 1 = .ok (.lookupswitch 83 #[(33, 80), (39, 77), (44, 69), (45, 75), (46, 67), (58, 73), (59, 71)], 67) := by decide +kernel
theorem dX5_sortBy_68 : decode cX5_sortBy 68 = .ok (.iconst 1, 1) := by decide +kernel
theorem dX5_sortBy_69 : decode cX5_sortBy 69 = .ok (.ireturn, 1) := by decide +kernel
theorem dX5_sortBy_70 : decode cX5_sortBy 70 = .ok (.iconst 2, 1) := by decide +kernel
theorem dX5_sortBy_71 : decode cX5_sortBy 71 = .ok (.ireturn, 1) := by decide +kernel
theorem dX5_sortBy_72 : decode cX5_sortBy 72 = .ok (.iconst 3, 1) := by decide +kernel
theorem dX5_sortBy_73 : decode cX5_sortBy 73 = .ok (.ireturn, 1) := by decide +kernel
theorem dX5_sortBy_74 : decode cX5_sortBy 74 = .ok (.iconst 4, 1) := by decide +kernel
theorem dX5_sortBy_75 : decode cX5_sortBy 75 = .ok (.ireturn, 1) := by decide +kernel
theorem dX5_sortBy_76 : decode cX5_sortBy 76 = .ok (.iconst 5, 1) := by decide +kernel
theorem dX5_sortBy_77 : decode cX5_sortBy 77 = .ok (.ireturn, 1) := by decide +kernel
theorem dX5_sortBy_78 : decode cX5_sortBy 78 = .ok (.bipush 6, 2) := by decide +kernel
theorem dX5_sortBy_80 : decode cX5_sortBy 80 = .ok (.ireturn, 1) := by decide +kernel
theorem dX5_sortBy_81 : decode cX5_sortBy 81 = .ok (.bipush 7, 2) := by decide +kernel
theorem dX5_sortBy_83 : decode cX5_sortBy 83 = .ok (.ireturn, 1) := by decide +kernel
theorem dX5_sortBy_84 : decode cX5_sortBy 84 = .ok (.iload_n 0, 1) := by decide +kernel
theorem dX5_sortBy_85 : decode cX5_sortBy 85 = .ok (.i2l, 1) := by decide +kernel
theorem dX5_sortBy_86 : decode cX5_sortBy 86 = .ok (.ldc2_w 62, 3) := by decide +kernel
theorem dX5_sortBy_89 : decode cX5_sortBy 89 = .ok (.ldc2_w 64, 3) := by decide +kernel
theorem dX5_sortBy_92 : decode cX5_sortBy 92 = .ok (.invokestatic 58, 3) := by decide +kernel
theorem dX5_sortBy_95 : decode cX5_sortBy 95 = .ok (.ifCond .eq 7, 3) := by decide +kernel
theorem dX5_sortBy_98 : decode cX5_sortBy 98 = .ok (.iconst 0, 1) := by decide +kernel
theorem dX5_sortBy_99 : decode cX5_sortBy 99 = .ok (.goto 6, 3) := by decide +kernel
theorem dX5_sortBy_102 : decode cX5_sortBy 102 = .ok (.sipush (-1006), 3) := by decide +kernel
theorem dX5_sortBy_105 : decode cX5_sortBy 105 = .ok (.ireturn, 1) := by decide +kernel
theorem dX5_isWord_0 : decode cX5_isWord 0 = .ok (.iload_n 1, 1) := by decide +kernel
theorem dX5_isWord_1 : decode cX5_isWord 1 = .ok (.i2l, 1) := by decide +kernel
theorem dX5_isWord_2 : decode cX5_isWord 2 = .ok (.lconst 0, 1) := by decide +kernel
theorem dX5_isWord_3 : decode cX5_isWord 3 = .ok (.aload_n 0, 1) := by decide +kernel
theorem dX5_isWord_4 : decode cX5_isWord 4 = .ok (.getfield 7, 3) := by decide +kernel
theorem dX5_isWord_7 : decode cX5_isWord 7 = .ok (.iconst 4, 1) := by decide +kernel
theorem dX5_isWord_8 : decode cX5_isWord 8 = .ok (.iaload, 1) := by decide +kernel
theorem dX5_isWord_9 : decode cX5_isWord 9 = .ok (.i2l, 1) := by decide +kernel
theorem dX5_isWord_10 : decode cX5_isWord 10 = .ok (.lconst 1, 1) := by decide +kernel
theorem dX5_isWord_11 : decode cX5_isWord 11 = .ok (.lsub, 1) := by decide +kernel
theorem dX5_isWord_12 : decode cX5_isWord 12 = .ok (.invokestatic 58, 3) := by decide +kernel
theorem dX5_isWord_15 : decode cX5_isWord 15 = .ok (.ireturn, 1) := by decide +kernel
theorem dX5_signs_0 : decode cX5_signs 0 = .ok (.aload_n 0, 1) := by decide +kernel
theorem dX5_signs_1 : decode cX5_signs 1 = .ok (.getfield 7, 3) := by decide +kernel
theorem dX5_signs_4 : decode cX5_signs 4 = .ok (.bipush 29, 2) := by decide +kernel
theorem dX5_signs_6 : decode cX5_signs 6 = .ok (.bipush 11, 2) := by decide +kernel
theorem dX5_signs_8 : decode cX5_signs 8 = .ok (.iload_n 1, 1) := by decide +kernel
theorem dX5_signs_9 : decode cX5_signs 9 = .ok (.imul, 1) := by decide +kernel
theorem dX5_signs_10 : decode cX5_signs 10 = .ok (.iadd, 1) := by decide +kernel
theorem dX5_signs_11 : decode cX5_signs 11 = .ok (.iaload, 1) := by decide +kernel
theorem dX5_signs_12 : decode cX5_signs 12 = .ok (.ireturn, 1) := by decide +kernel
theorem dX5_signAt_0 : decode cX5_signAt 0 = .ok (.aload_n 0, 1) := by decide +kernel
theorem dX5_signAt_1 : decode cX5_signAt 1 = .ok (.getfield 7, 3) := by decide +kernel
theorem dX5_signAt_4 : decode cX5_signAt 4 = .ok (.bipush 29, 2) := by decide +kernel
theorem dX5_signAt_6 : decode cX5_signAt 6 = .ok (.bipush 11, 2) := by decide +kernel
theorem dX5_signAt_8 : decode cX5_signAt 8 = .ok (.iload_n 1, 1) := by decide +kernel
theorem dX5_signAt_9 : decode cX5_signAt 9 = .ok (.imul, 1) := by decide +kernel
theorem dX5_signAt_10 : decode cX5_signAt 10 = .ok (.iadd, 1) := by decide +kernel
theorem dX5_signAt_11 : decode cX5_signAt 11 = .ok (.iconst 1, 1) := by decide +kernel
theorem dX5_signAt_12 : decode cX5_signAt 12 = .ok (.iadd, 1) := by decide +kernel
theorem dX5_signAt_13 : decode cX5_signAt 13 = .ok (.iload_n 2, 1) := by decide +kernel
theorem dX5_signAt_14 : decode cX5_signAt 14 = .ok (.iadd, 1) := by decide +kernel
theorem dX5_signAt_15 : decode cX5_signAt 15 = .ok (.iaload, 1) := by decide +kernel
theorem dX5_signAt_16 : decode cX5_signAt 16 = .ok (.ireturn, 1) := by decide +kernel
theorem dX5_widthOf_0 : decode cX5_widthOf 0 = .ok (.iconst 0, 1) := by decide +kernel
theorem dX5_widthOf_1 : decode cX5_widthOf 1 = .ok (.istore_n 2, 1) := by decide +kernel
theorem dX5_widthOf_2 : decode cX5_widthOf 2 = .ok (.iconst 0, 1) := by decide +kernel
theorem dX5_widthOf_3 : decode cX5_widthOf 3 = .ok (.istore_n 3, 1) := by decide +kernel
theorem dX5_widthOf_4 : decode cX5_widthOf 4 = .ok (.iload_n 3, 1) := by decide +kernel
theorem dX5_widthOf_5 : decode cX5_widthOf 5 = .ok (.aload_n 0, 1) := by decide +kernel
theorem dX5_widthOf_6 : decode cX5_widthOf 6 = .ok (.iload_n 1, 1) := by decide +kernel
theorem dX5_widthOf_7 : decode cX5_widthOf 7 = .ok (.invokevirtual 66, 3) := by decide +kernel
theorem dX5_widthOf_10 : decode cX5_widthOf 10 = .ok (.if_icmp .ge 28, 3) := by decide +kernel
theorem dX5_widthOf_13 : decode cX5_widthOf 13 = .ok (.iload_n 2, 1) := by decide +kernel
theorem dX5_widthOf_14 : decode cX5_widthOf 14 = .ok (.aload_n 0, 1) := by decide +kernel
theorem dX5_widthOf_15 : decode cX5_widthOf 15 = .ok (.getfield 7, 3) := by decide +kernel
theorem dX5_widthOf_18 : decode cX5_widthOf 18 = .ok (.iconst 5, 1) := by decide +kernel
theorem dX5_widthOf_19 : decode cX5_widthOf 19 = .ok (.aload_n 0, 1) := by decide +kernel
theorem dX5_widthOf_20 : decode cX5_widthOf 20 = .ok (.iload_n 1, 1) := by decide +kernel
theorem dX5_widthOf_21 : decode cX5_widthOf 21 = .ok (.iload_n 3, 1) := by decide +kernel
theorem dX5_widthOf_22 : decode cX5_widthOf 22 = .ok (.invokevirtual 70, 3) := by decide +kernel
theorem dX5_widthOf_25 : decode cX5_widthOf 25 = .ok (.invokestatic 74, 3) := by decide +kernel
theorem dX5_widthOf_28 : decode cX5_widthOf 28 = .ok (.iadd, 1) := by decide +kernel
theorem dX5_widthOf_29 : decode cX5_widthOf 29 = .ok (.iaload, 1) := by decide +kernel
theorem dX5_widthOf_30 : decode cX5_widthOf 30 = .ok (.iadd, 1) := by decide +kernel
theorem dX5_widthOf_31 : decode cX5_widthOf 31 = .ok (.istore_n 2, 1) := by decide +kernel
theorem dX5_widthOf_32 : decode cX5_widthOf 32 = .ok (.iinc 3 1, 3) := by decide +kernel
theorem dX5_widthOf_35 : decode cX5_widthOf 35 = .ok (.goto (-31), 3) := by decide +kernel
theorem dX5_widthOf_38 : decode cX5_widthOf 38 = .ok (.iload_n 2, 1) := by decide +kernel
theorem dX5_widthOf_39 : decode cX5_widthOf 39 = .ok (.ireturn, 1) := by decide +kernel
theorem dX5_hang_0 : decode cX5_hang 0 = .ok (.aload_n 0, 1) := by decide +kernel
theorem dX5_hang_1 : decode cX5_hang 1 = .ok (.getfield 7, 3) := by decide +kernel
theorem dX5_hang_4 : decode cX5_hang 4 = .ok (.iconst 3, 1) := by decide +kernel
theorem dX5_hang_5 : decode cX5_hang 5 = .ok (.iaload, 1) := by decide +kernel
theorem dX5_hang_6 : decode cX5_hang 6 = .ok (.ifCond .ne 7, 3) := by decide +kernel
theorem dX5_hang_9 : decode cX5_hang 9 = .ok (.iconst 0, 1) := by decide +kernel
theorem dX5_hang_10 : decode cX5_hang 10 = .ok (.goto 23, 3) := by decide +kernel
theorem dX5_hang_13 : decode cX5_hang 13 = .ok (.aload_n 0, 1) := by decide +kernel
theorem dX5_hang_14 : decode cX5_hang 14 = .ok (.getfield 7, 3) := by decide +kernel
theorem dX5_hang_17 : decode cX5_hang 17 = .ok (.iconst 5, 1) := by decide +kernel
theorem dX5_hang_18 : decode cX5_hang 18 = .ok (.iload_n 1, 1) := by decide +kernel
theorem dX5_hang_19 : decode cX5_hang 19 = .ok (.iadd, 1) := by decide +kernel
theorem dX5_hang_20 : decode cX5_hang 20 = .ok (.iaload, 1) := by decide +kernel
theorem dX5_hang_21 : decode cX5_hang 21 = .ok (.aload_n 0, 1) := by decide +kernel
theorem dX5_hang_22 : decode cX5_hang 22 = .ok (.getfield 7, 3) := by decide +kernel
theorem dX5_hang_25 : decode cX5_hang 25 = .ok (.iload_n 2, 1) := by decide +kernel
theorem dX5_hang_26 : decode cX5_hang 26 = .ok (.iload_n 1, 1) := by decide +kernel
theorem dX5_hang_27 : decode cX5_hang 27 = .ok (.iadd, 1) := by decide +kernel
theorem dX5_hang_28 : decode cX5_hang 28 = .ok (.iaload, 1) := by decide +kernel
theorem dX5_hang_29 : decode cX5_hang 29 = .ok (.imul, 1) := by decide +kernel
theorem dX5_hang_30 : decode cX5_hang 30 = .ok (.bipush 100, 2) := by decide +kernel
theorem dX5_hang_32 : decode cX5_hang 32 = .ok (.idiv, 1) := by decide +kernel
theorem dX5_hang_33 : decode cX5_hang 33 = .ok (.ireturn, 1) := by decide +kernel
theorem dX5_hangsLeft_0 : decode cX5_hangsLeft 0 = .ok (.aload_n 0, 1) := by decide +kernel
theorem dX5_hangsLeft_1 : decode cX5_hangsLeft 1 = .ok (.aload_n 0, 1) := by decide +kernel
theorem dX5_hangsLeft_2 : decode cX5_hangsLeft 2 = .ok (.iload_n 1, 1) := by decide +kernel
theorem dX5_hangsLeft_3 : decode cX5_hangsLeft 3 = .ok (.iconst 0, 1) := by decide +kernel
theorem dX5_hangsLeft_4 : decode cX5_hangsLeft 4 = .ok (.invokevirtual 70, 3) := by decide +kernel
theorem dX5_hangsLeft_7 : decode cX5_hangsLeft 7 = .ok (.invokestatic 74, 3) := by decide +kernel
theorem dX5_hangsLeft_10 : decode cX5_hangsLeft 10 = .ok (.bipush 13, 2) := by decide +kernel
theorem dX5_hangsLeft_12 : decode cX5_hangsLeft 12 = .ok (.invokevirtual 77, 3) := by decide +kernel
theorem dX5_hangsLeft_15 : decode cX5_hangsLeft 15 = .ok (.ireturn, 1) := by decide +kernel
theorem dX5_hangsRight_0 : decode cX5_hangsRight 0 = .ok (.aload_n 0, 1) := by decide +kernel
theorem dX5_hangsRight_1 : decode cX5_hangsRight 1 = .ok (.aload_n 0, 1) := by decide +kernel
theorem dX5_hangsRight_2 : decode cX5_hangsRight 2 = .ok (.iload_n 1, 1) := by decide +kernel
theorem dX5_hangsRight_3 : decode cX5_hangsRight 3 = .ok (.aload_n 0, 1) := by decide +kernel
theorem dX5_hangsRight_4 : decode cX5_hangsRight 4 = .ok (.iload_n 1, 1) := by decide +kernel
theorem dX5_hangsRight_5 : decode cX5_hangsRight 5 = .ok (.invokevirtual 66, 3) := by decide +kernel
theorem dX5_hangsRight_8 : decode cX5_hangsRight 8 = .ok (.iconst 1, 1) := by decide +kernel
theorem dX5_hangsRight_9 : decode cX5_hangsRight 9 = .ok (.isub, 1) := by decide +kernel
theorem dX5_hangsRight_10 : decode cX5_hangsRight 10 = .ok (.invokevirtual 70, 3) := by decide +kernel
theorem dX5_hangsRight_13 : decode cX5_hangsRight 13 = .ok (.invokestatic 74, 3) := by decide +kernel
theorem dX5_hangsRight_16 : decode cX5_hangsRight 16 = .ok (.bipush 21, 2) := by decide +kernel
theorem dX5_hangsRight_18 : decode cX5_hangsRight 18 = .ok (.invokevirtual 77, 3) := by decide +kernel
theorem dX5_hangsRight_21 : decode cX5_hangsRight 21 = .ok (.ireturn, 1) := by decide +kernel
theorem dX5_measures_0 : decode cX5_measures 0 = .ok (.iconst 0, 1) := by decide +kernel
theorem dX5_measures_1 : decode cX5_measures 1 = .ok (.istore_n 1, 1) := by decide +kernel
theorem dX5_measures_2 : decode cX5_measures 2 = .ok (.iload_n 1, 1) := by decide +kernel
theorem dX5_measures_3 : decode cX5_measures 3 = .ok (.aload_n 0, 1) := by decide +kernel
theorem dX5_measures_4 : decode cX5_measures 4 = .ok (.getfield 7, 3) := by decide +kernel
theorem dX5_measures_7 : decode cX5_measures 7 = .ok (.iconst 4, 1) := by decide +kernel
theorem dX5_measures_8 : decode cX5_measures 8 = .ok (.iaload, 1) := by decide +kernel
theorem dX5_measures_9 : decode cX5_measures 9 = .ok (.if_icmp .ge 51, 3) := by decide +kernel
theorem dX5_measures_12 : decode cX5_measures 12 = .ok (.aload_n 0, 1) := by decide +kernel
theorem dX5_measures_13 : decode cX5_measures 13 = .ok (.getfield 25, 3) := by decide +kernel
theorem dX5_measures_16 : decode cX5_measures 16 = .ok (.iload_n 1, 1) := by decide +kernel
theorem dX5_measures_17 : decode cX5_measures 17 = .ok (.iconst 1, 1) := by decide +kernel
theorem dX5_measures_18 : decode cX5_measures 18 = .ok (.iadd, 1) := by decide +kernel
theorem dX5_measures_19 : decode cX5_measures 19 = .ok (.aload_n 0, 1) := by decide +kernel
theorem dX5_measures_20 : decode cX5_measures 20 = .ok (.getfield 25, 3) := by decide +kernel
theorem dX5_measures_23 : decode cX5_measures 23 = .ok (.iload_n 1, 1) := by decide +kernel
theorem dX5_measures_24 : decode cX5_measures 24 = .ok (.iaload, 1) := by decide +kernel
theorem dX5_measures_25 : decode cX5_measures 25 = .ok (.aload_n 0, 1) := by decide +kernel
theorem dX5_measures_26 : decode cX5_measures 26 = .ok (.iload_n 1, 1) := by decide +kernel
theorem dX5_measures_27 : decode cX5_measures 27 = .ok (.invokevirtual 80, 3) := by decide +kernel
theorem dX5_measures_30 : decode cX5_measures 30 = .ok (.iadd, 1) := by decide +kernel
theorem dX5_measures_31 : decode cX5_measures 31 = .ok (.iastore, 1) := by decide +kernel
theorem dX5_measures_32 : decode cX5_measures 32 = .ok (.aload_n 0, 1) := by decide +kernel
theorem dX5_measures_33 : decode cX5_measures 33 = .ok (.getfield 28, 3) := by decide +kernel
theorem dX5_measures_36 : decode cX5_measures 36 = .ok (.iload_n 1, 1) := by decide +kernel
theorem dX5_measures_37 : decode cX5_measures 37 = .ok (.aload_n 0, 1) := by decide +kernel
theorem dX5_measures_38 : decode cX5_measures 38 = .ok (.iload_n 1, 1) := by decide +kernel
theorem dX5_measures_39 : decode cX5_measures 39 = .ok (.invokevirtual 83, 3) := by decide +kernel
theorem dX5_measures_42 : decode cX5_measures 42 = .ok (.iastore, 1) := by decide +kernel
theorem dX5_measures_43 : decode cX5_measures 43 = .ok (.aload_n 0, 1) := by decide +kernel
theorem dX5_measures_44 : decode cX5_measures 44 = .ok (.getfield 31, 3) := by decide +kernel
theorem dX5_measures_47 : decode cX5_measures 47 = .ok (.iload_n 1, 1) := by decide +kernel
theorem dX5_measures_48 : decode cX5_measures 48 = .ok (.aload_n 0, 1) := by decide +kernel
theorem dX5_measures_49 : decode cX5_measures 49 = .ok (.iload_n 1, 1) := by decide +kernel
theorem dX5_measures_50 : decode cX5_measures 50 = .ok (.invokevirtual 86, 3) := by decide +kernel
theorem dX5_measures_53 : decode cX5_measures 53 = .ok (.iastore, 1) := by decide +kernel
theorem dX5_measures_54 : decode cX5_measures 54 = .ok (.iinc 1 1, 3) := by decide +kernel
theorem dX5_measures_57 : decode cX5_measures 57 = .ok (.goto (-55), 3) := by decide +kernel
theorem dX5_measures_60 : decode cX5_measures 60 = .ok (.return_, 1) := by decide +kernel
theorem dX5_widthOfLine_0 : decode cX5_widthOfLine 0 = .ok (.iload_n 2, 1) := by decide +kernel
theorem dX5_widthOfLine_1 : decode cX5_widthOfLine 1 = .ok (.iload_n 1, 1) := by decide +kernel
theorem dX5_widthOfLine_2 : decode cX5_widthOfLine 2 = .ok (.isub, 1) := by decide +kernel
theorem dX5_widthOfLine_3 : decode cX5_widthOfLine 3 = .ok (.aload_n 0, 1) := by decide +kernel
theorem dX5_widthOfLine_4 : decode cX5_widthOfLine 4 = .ok (.getfield 7, 3) := by decide +kernel
theorem dX5_widthOfLine_7 : decode cX5_widthOfLine 7 = .ok (.iconst 1, 1) := by decide +kernel
theorem dX5_widthOfLine_8 : decode cX5_widthOfLine 8 = .ok (.iaload, 1) := by decide +kernel
theorem dX5_widthOfLine_9 : decode cX5_widthOfLine 9 = .ok (.imul, 1) := by decide +kernel
theorem dX5_widthOfLine_10 : decode cX5_widthOfLine 10 = .ok (.aload_n 0, 1) := by decide +kernel
theorem dX5_widthOfLine_11 : decode cX5_widthOfLine 11 = .ok (.getfield 25, 3) := by decide +kernel
theorem dX5_widthOfLine_14 : decode cX5_widthOfLine 14 = .ok (.iload_n 2, 1) := by decide +kernel
theorem dX5_widthOfLine_15 : decode cX5_widthOfLine 15 = .ok (.iconst 1, 1) := by decide +kernel
theorem dX5_widthOfLine_16 : decode cX5_widthOfLine 16 = .ok (.iadd, 1) := by decide +kernel
theorem dX5_widthOfLine_17 : decode cX5_widthOfLine 17 = .ok (.iaload, 1) := by decide +kernel
theorem dX5_widthOfLine_18 : decode cX5_widthOfLine 18 = .ok (.iadd, 1) := by decide +kernel
theorem dX5_widthOfLine_19 : decode cX5_widthOfLine 19 = .ok (.aload_n 0, 1) := by decide +kernel
theorem dX5_widthOfLine_20 : decode cX5_widthOfLine 20 = .ok (.getfield 25, 3) := by decide +kernel
theorem dX5_widthOfLine_23 : decode cX5_widthOfLine 23 = .ok (.iload_n 1, 1) := by decide +kernel
theorem dX5_widthOfLine_24 : decode cX5_widthOfLine 24 = .ok (.iaload, 1) := by decide +kernel
theorem dX5_widthOfLine_25 : decode cX5_widthOfLine 25 = .ok (.isub, 1) := by decide +kernel
theorem dX5_widthOfLine_26 : decode cX5_widthOfLine 26 = .ok (.ireturn, 1) := by decide +kernel
theorem dX5_bodyOf_0 : decode cX5_bodyOf 0 = .ok (.aload_n 0, 1) := by decide +kernel
theorem dX5_bodyOf_1 : decode cX5_bodyOf 1 = .ok (.iload_n 1, 1) := by decide +kernel
theorem dX5_bodyOf_2 : decode cX5_bodyOf 2 = .ok (.iload_n 2, 1) := by decide +kernel
theorem dX5_bodyOf_3 : decode cX5_bodyOf 3 = .ok (.invokevirtual 89, 3) := by decide +kernel
theorem dX5_bodyOf_6 : decode cX5_bodyOf 6 = .ok (.aload_n 0, 1) := by decide +kernel
theorem dX5_bodyOf_7 : decode cX5_bodyOf 7 = .ok (.getfield 28, 3) := by decide +kernel
theorem dX5_bodyOf_10 : decode cX5_bodyOf 10 = .ok (.iload_n 1, 1) := by decide +kernel
theorem dX5_bodyOf_11 : decode cX5_bodyOf 11 = .ok (.iaload, 1) := by decide +kernel
theorem dX5_bodyOf_12 : decode cX5_bodyOf 12 = .ok (.isub, 1) := by decide +kernel
theorem dX5_bodyOf_13 : decode cX5_bodyOf 13 = .ok (.aload_n 0, 1) := by decide +kernel
theorem dX5_bodyOf_14 : decode cX5_bodyOf 14 = .ok (.getfield 31, 3) := by decide +kernel
theorem dX5_bodyOf_17 : decode cX5_bodyOf 17 = .ok (.iload_n 2, 1) := by decide +kernel
theorem dX5_bodyOf_18 : decode cX5_bodyOf 18 = .ok (.iaload, 1) := by decide +kernel
theorem dX5_bodyOf_19 : decode cX5_bodyOf 19 = .ok (.isub, 1) := by decide +kernel
theorem dX5_bodyOf_20 : decode cX5_bodyOf 20 = .ok (.ireturn, 1) := by decide +kernel
theorem dX5_badnessOf_0 : decode cX5_badnessOf 0 = .ok (.aload_n 0, 1) := by decide +kernel
theorem dX5_badnessOf_1 : decode cX5_badnessOf 1 = .ok (.getfield 7, 3) := by decide +kernel
theorem dX5_badnessOf_4 : decode cX5_badnessOf 4 = .ok (.iconst 0, 1) := by decide +kernel
theorem dX5_badnessOf_5 : decode cX5_badnessOf 5 = .ok (.iaload, 1) := by decide +kernel
theorem dX5_badnessOf_6 : decode cX5_badnessOf 6 = .ok (.aload_n 0, 1) := by decide +kernel
theorem dX5_badnessOf_7 : decode cX5_badnessOf 7 = .ok (.iload_n 1, 1) := by decide +kernel
theorem dX5_badnessOf_8 : decode cX5_badnessOf 8 = .ok (.iload_n 2, 1) := by decide +kernel
theorem dX5_badnessOf_9 : decode cX5_badnessOf 9 = .ok (.invokevirtual 92, 3) := by decide +kernel
theorem dX5_badnessOf_12 : decode cX5_badnessOf 12 = .ok (.isub, 1) := by decide +kernel
theorem dX5_badnessOf_13 : decode cX5_badnessOf 13 = .ok (.istore_n 3, 1) := by decide +kernel
theorem dX5_badnessOf_14 : decode cX5_badnessOf 14 = .ok (.iload_n 3, 1) := by decide +kernel
theorem dX5_badnessOf_15 : decode cX5_badnessOf 15 = .ok (.ifCond .ge 9, 3) := by decide +kernel
theorem dX5_badnessOf_18 : decode cX5_badnessOf 18 = .ok (.sipush 10000, 3) := by decide +kernel
theorem dX5_badnessOf_21 : decode cX5_badnessOf 21 = .ok (.goto 22, 3) := by decide +kernel
theorem dX5_badnessOf_24 : decode cX5_badnessOf 24 = .ok (.iload_n 2, 1) := by decide +kernel
theorem dX5_badnessOf_25 : decode cX5_badnessOf 25 = .ok (.aload_n 0, 1) := by decide +kernel
theorem dX5_badnessOf_26 : decode cX5_badnessOf 26 = .ok (.getfield 7, 3) := by decide +kernel
theorem dX5_badnessOf_29 : decode cX5_badnessOf 29 = .ok (.iconst 4, 1) := by decide +kernel
theorem dX5_badnessOf_30 : decode cX5_badnessOf 30 = .ok (.iaload, 1) := by decide +kernel
theorem dX5_badnessOf_31 : decode cX5_badnessOf 31 = .ok (.iconst 1, 1) := by decide +kernel
theorem dX5_badnessOf_32 : decode cX5_badnessOf 32 = .ok (.isub, 1) := by decide +kernel
theorem dX5_badnessOf_33 : decode cX5_badnessOf 33 = .ok (.if_icmp .ne 7, 3) := by decide +kernel
theorem dX5_badnessOf_36 : decode cX5_badnessOf 36 = .ok (.iconst 0, 1) := by decide +kernel
theorem dX5_badnessOf_37 : decode cX5_badnessOf 37 = .ok (.goto 6, 3) := by decide +kernel
theorem dX5_badnessOf_40 : decode cX5_badnessOf 40 = .ok (.iload_n 3, 1) := by decide +kernel
theorem dX5_badnessOf_41 : decode cX5_badnessOf 41 = .ok (.iload_n 3, 1) := by decide +kernel
theorem dX5_badnessOf_42 : decode cX5_badnessOf 42 = .ok (.imul, 1) := by decide +kernel
theorem dX5_badnessOf_43 : decode cX5_badnessOf 43 = .ok (.ireturn, 1) := by decide +kernel
theorem dX5_fills_0 : decode cX5_fills 0 = .ok (.aload_n 0, 1) := by decide +kernel
theorem dX5_fills_1 : decode cX5_fills 1 = .ok (.invokevirtual 95, 3) := by decide +kernel
theorem dX5_fills_4 : decode cX5_fills 4 = .ok (.aload_n 0, 1) := by decide +kernel
theorem dX5_fills_5 : decode cX5_fills 5 = .ok (.iconst 0, 1) := by decide +kernel
theorem dX5_fills_6 : decode cX5_fills 6 = .ok (.putfield 98, 3) := by decide +kernel
theorem dX5_fills_9 : decode cX5_fills 9 = .ok (.iconst 0, 1) := by decide +kernel
theorem dX5_fills_10 : decode cX5_fills 10 = .ok (.istore_n 1, 1) := by decide +kernel
theorem dX5_fills_11 : decode cX5_fills 11 = .ok (.iload_n 1, 1) := by decide +kernel
theorem dX5_fills_12 : decode cX5_fills 12 = .ok (.aload_n 0, 1) := by decide +kernel
theorem dX5_fills_13 : decode cX5_fills 13 = .ok (.getfield 7, 3) := by decide +kernel
theorem dX5_fills_16 : decode cX5_fills 16 = .ok (.iconst 4, 1) := by decide +kernel
theorem dX5_fills_17 : decode cX5_fills 17 = .ok (.iaload, 1) := by decide +kernel
theorem dX5_fills_18 : decode cX5_fills 18 = .ok (.if_icmp .ge 67, 3) := by decide +kernel
theorem dX5_fills_21 : decode cX5_fills 21 = .ok (.iload_n 1, 1) := by decide +kernel
theorem dX5_fills_22 : decode cX5_fills 22 = .ok (.istore_n 2, 1) := by decide +kernel
theorem dX5_fills_23 : decode cX5_fills 23 = .ok (.iload_n 2, 1) := by decide +kernel
theorem dX5_fills_24 : decode cX5_fills 24 = .ok (.iconst 1, 1) := by decide +kernel
theorem dX5_fills_25 : decode cX5_fills 25 = .ok (.iadd, 1) := by decide +kernel
theorem dX5_fills_26 : decode cX5_fills 26 = .ok (.aload_n 0, 1) := by decide +kernel
theorem dX5_fills_27 : decode cX5_fills 27 = .ok (.getfield 7, 3) := by decide +kernel
theorem dX5_fills_30 : decode cX5_fills 30 = .ok (.iconst 4, 1) := by decide +kernel
theorem dX5_fills_31 : decode cX5_fills 31 = .ok (.iaload, 1) := by decide +kernel
theorem dX5_fills_32 : decode cX5_fills 32 = .ok (.if_icmp .ge 26, 3) := by decide +kernel
theorem dX5_fills_35 : decode cX5_fills 35 = .ok (.aload_n 0, 1) := by decide +kernel
theorem dX5_fills_36 : decode cX5_fills 36 = .ok (.iload_n 1, 1) := by decide +kernel
theorem dX5_fills_37 : decode cX5_fills 37 = .ok (.iload_n 2, 1) := by decide +kernel
theorem dX5_fills_38 : decode cX5_fills 38 = .ok (.iconst 1, 1) := by decide +kernel
theorem dX5_fills_39 : decode cX5_fills 39 = .ok (.iadd, 1) := by decide +kernel
theorem dX5_fills_40 : decode cX5_fills 40 = .ok (.invokevirtual 92, 3) := by decide +kernel
theorem dX5_fills_43 : decode cX5_fills 43 = .ok (.aload_n 0, 1) := by decide +kernel
theorem dX5_fills_44 : decode cX5_fills 44 = .ok (.getfield 7, 3) := by decide +kernel
theorem dX5_fills_47 : decode cX5_fills 47 = .ok (.iconst 0, 1) := by decide +kernel
theorem dX5_fills_48 : decode cX5_fills 48 = .ok (.iaload, 1) := by decide +kernel
theorem dX5_fills_49 : decode cX5_fills 49 = .ok (.if_icmp .gt 9, 3) := by decide +kernel
theorem dX5_fills_52 : decode cX5_fills 52 = .ok (.iinc 2 1, 3) := by decide +kernel
theorem dX5_fills_55 : decode cX5_fills 55 = .ok (.goto (-32), 3) := by decide +kernel
theorem dX5_fills_58 : decode cX5_fills 58 = .ok (.aload_n 0, 1) := by decide +kernel
theorem dX5_fills_59 : decode cX5_fills 59 = .ok (.getfield 34, 3) := by decide +kernel
theorem dX5_fills_62 : decode cX5_fills 62 = .ok (.aload_n 0, 1) := by decide +kernel
theorem dX5_fills_63 : decode cX5_fills 63 = .ok (.getfield 98, 3) := by decide +kernel
theorem dX5_fills_66 : decode cX5_fills 66 = .ok (.iload_n 1, 1) := by decide +kernel
theorem dX5_fills_67 : decode cX5_fills 67 = .ok (.iastore, 1) := by decide +kernel
theorem dX5_fills_68 : decode cX5_fills 68 = .ok (.aload_n 0, 1) := by decide +kernel
theorem dX5_fills_69 : decode cX5_fills 69 = .ok (.dup, 1) := by decide +kernel
theorem dX5_fills_70 : decode cX5_fills 70 = .ok (.getfield 98, 3) := by decide +kernel
theorem dX5_fills_73 : decode cX5_fills 73 = .ok (.iconst 1, 1) := by decide +kernel
theorem dX5_fills_74 : decode cX5_fills 74 = .ok (.iadd, 1) := by decide +kernel
theorem dX5_fills_75 : decode cX5_fills 75 = .ok (.putfield 98, 3) := by decide +kernel
theorem dX5_fills_78 : decode cX5_fills 78 = .ok (.iload_n 2, 1) := by decide +kernel
theorem dX5_fills_79 : decode cX5_fills 79 = .ok (.iconst 1, 1) := by decide +kernel
theorem dX5_fills_80 : decode cX5_fills 80 = .ok (.iadd, 1) := by decide +kernel
theorem dX5_fills_81 : decode cX5_fills 81 = .ok (.istore_n 1, 1) := by decide +kernel
theorem dX5_fills_82 : decode cX5_fills 82 = .ok (.goto (-71), 3) := by decide +kernel
theorem dX5_fills_85 : decode cX5_fills 85 = .ok (.aload_n 0, 1) := by decide +kernel
theorem dX5_fills_86 : decode cX5_fills 86 = .ok (.getfield 34, 3) := by decide +kernel
theorem dX5_fills_89 : decode cX5_fills 89 = .ok (.aload_n 0, 1) := by decide +kernel
theorem dX5_fills_90 : decode cX5_fills 90 = .ok (.getfield 98, 3) := by decide +kernel
theorem dX5_fills_93 : decode cX5_fills 93 = .ok (.aload_n 0, 1) := by decide +kernel
theorem dX5_fills_94 : decode cX5_fills 94 = .ok (.getfield 7, 3) := by decide +kernel
theorem dX5_fills_97 : decode cX5_fills 97 = .ok (.iconst 4, 1) := by decide +kernel
theorem dX5_fills_98 : decode cX5_fills 98 = .ok (.iaload, 1) := by decide +kernel
theorem dX5_fills_99 : decode cX5_fills 99 = .ok (.iastore, 1) := by decide +kernel
theorem dX5_fills_100 : decode cX5_fills 100 = .ok (.return_, 1) := by decide +kernel
theorem dX5_worksOutFrom_0 : decode cX5_worksOutFrom 0 = .ok (.aload_n 0, 1) := by decide +kernel
theorem dX5_worksOutFrom_1 : decode cX5_worksOutFrom 1 = .ok (.getfield 40, 3) := by decide +kernel
theorem dX5_worksOutFrom_4 : decode cX5_worksOutFrom 4 = .ok (.iload_n 1, 1) := by decide +kernel
theorem dX5_worksOutFrom_5 : decode cX5_worksOutFrom 5 = .ok (.iconst 0, 1) := by decide +kernel
theorem dX5_worksOutFrom_6 : decode cX5_worksOutFrom 6 = .ok (.iastore, 1) := by decide +kernel
theorem dX5_worksOutFrom_7 : decode cX5_worksOutFrom 7 = .ok (.iload_n 1, 1) := by decide +kernel
theorem dX5_worksOutFrom_8 : decode cX5_worksOutFrom 8 = .ok (.istore_n 2, 1) := by decide +kernel
theorem dX5_worksOutFrom_9 : decode cX5_worksOutFrom 9 = .ok (.iload_n 2, 1) := by decide +kernel
theorem dX5_worksOutFrom_10 : decode cX5_worksOutFrom 10 = .ok (.aload_n 0, 1) := by decide +kernel
theorem dX5_worksOutFrom_11 : decode cX5_worksOutFrom 11 = .ok (.getfield 7, 3) := by decide +kernel
theorem dX5_worksOutFrom_14 : decode cX5_worksOutFrom 14 = .ok (.iconst 4, 1) := by decide +kernel
theorem dX5_worksOutFrom_15 : decode cX5_worksOutFrom 15 = .ok (.iaload, 1) := by decide +kernel
theorem dX5_worksOutFrom_16 : decode cX5_worksOutFrom 16 = .ok (.if_icmp .ge 82, 3) := by decide +kernel
theorem dX5_worksOutFrom_19 : decode cX5_worksOutFrom 19 = .ok (.iload_n 2, 1) := by decide +kernel
theorem dX5_worksOutFrom_20 : decode cX5_worksOutFrom 20 = .ok (.iload_n 1, 1) := by decide +kernel
theorem dX5_worksOutFrom_21 : decode cX5_worksOutFrom 21 = .ok (.if_icmp .eq 18, 3) := by decide +kernel
theorem dX5_worksOutFrom_24 : decode cX5_worksOutFrom 24 = .ok (.aload_n 0, 1) := by decide +kernel
theorem dX5_worksOutFrom_25 : decode cX5_worksOutFrom 25 = .ok (.iload_n 1, 1) := by decide +kernel
theorem dX5_worksOutFrom_26 : decode cX5_worksOutFrom 26 = .ok (.iload_n 2, 1) := by decide +kernel
theorem dX5_worksOutFrom_27 : decode cX5_worksOutFrom 27 = .ok (.invokevirtual 92, 3) := by decide +kernel
theorem dX5_worksOutFrom_30 : decode cX5_worksOutFrom 30 = .ok (.aload_n 0, 1) := by decide +kernel
theorem dX5_worksOutFrom_31 : decode cX5_worksOutFrom 31 = .ok (.getfield 7, 3) := by decide +kernel
theorem dX5_worksOutFrom_34 : decode cX5_worksOutFrom 34 = .ok (.iconst 0, 1) := by decide +kernel
theorem dX5_worksOutFrom_35 : decode cX5_worksOutFrom 35 = .ok (.iaload, 1) := by decide +kernel
theorem dX5_worksOutFrom_36 : decode cX5_worksOutFrom 36 = .ok (.if_icmp .gt 62, 3) := by decide +kernel
theorem dX5_worksOutFrom_39 : decode cX5_worksOutFrom 39 = .ok (.aload_n 0, 1) := by decide +kernel
theorem dX5_worksOutFrom_40 : decode cX5_worksOutFrom 40 = .ok (.iload_n 1, 1) := by decide +kernel
theorem dX5_worksOutFrom_41 : decode cX5_worksOutFrom 41 = .ok (.iload_n 2, 1) := by decide +kernel
theorem dX5_worksOutFrom_42 : decode cX5_worksOutFrom 42 = .ok (.invokevirtual 101, 3) := by decide +kernel
theorem dX5_worksOutFrom_45 : decode cX5_worksOutFrom 45 = .ok (.aload_n 0, 1) := by decide +kernel
theorem dX5_worksOutFrom_46 : decode cX5_worksOutFrom 46 = .ok (.getfield 37, 3) := by decide +kernel
theorem dX5_worksOutFrom_49 : decode cX5_worksOutFrom 49 = .ok (.iload_n 2, 1) := by decide +kernel
theorem dX5_worksOutFrom_50 : decode cX5_worksOutFrom 50 = .ok (.iconst 1, 1) := by decide +kernel
theorem dX5_worksOutFrom_51 : decode cX5_worksOutFrom 51 = .ok (.iadd, 1) := by decide +kernel
theorem dX5_worksOutFrom_52 : decode cX5_worksOutFrom 52 = .ok (.iaload, 1) := by decide +kernel
theorem dX5_worksOutFrom_53 : decode cX5_worksOutFrom 53 = .ok (.iadd, 1) := by decide +kernel
theorem dX5_worksOutFrom_54 : decode cX5_worksOutFrom 54 = .ok (.istore_n 3, 1) := by decide +kernel
theorem dX5_worksOutFrom_55 : decode cX5_worksOutFrom 55 = .ok (.aload_n 0, 1) := by decide +kernel
theorem dX5_worksOutFrom_56 : decode cX5_worksOutFrom 56 = .ok (.getfield 40, 3) := by decide +kernel
theorem dX5_worksOutFrom_59 : decode cX5_worksOutFrom 59 = .ok (.iload_n 1, 1) := by decide +kernel
theorem dX5_worksOutFrom_60 : decode cX5_worksOutFrom 60 = .ok (.iaload, 1) := by decide +kernel
theorem dX5_worksOutFrom_61 : decode cX5_worksOutFrom 61 = .ok (.ifCond .eq 13, 3) := by decide +kernel
theorem dX5_worksOutFrom_64 : decode cX5_worksOutFrom 64 = .ok (.iload_n 3, 1) := by decide +kernel
theorem dX5_worksOutFrom_65 : decode cX5_worksOutFrom 65 = .ok (.aload_n 0, 1) := by decide +kernel
theorem dX5_worksOutFrom_66 : decode cX5_worksOutFrom 66 = .ok (.getfield 37, 3) := by decide +kernel
theorem dX5_worksOutFrom_69 : decode cX5_worksOutFrom 69 = .ok (.iload_n 1, 1) := by decide +kernel
theorem dX5_worksOutFrom_70 : decode cX5_worksOutFrom 70 = .ok (.iaload, 1) := by decide +kernel
theorem dX5_worksOutFrom_71 : decode cX5_worksOutFrom 71 = .ok (.if_icmp .gt 21, 3) := by decide +kernel
theorem dX5_worksOutFrom_74 : decode cX5_worksOutFrom 74 = .ok (.aload_n 0, 1) := by decide +kernel
theorem dX5_worksOutFrom_75 : decode cX5_worksOutFrom 75 = .ok (.getfield 37, 3) := by decide +kernel
theorem dX5_worksOutFrom_78 : decode cX5_worksOutFrom 78 = .ok (.iload_n 1, 1) := by decide +kernel
theorem dX5_worksOutFrom_79 : decode cX5_worksOutFrom 79 = .ok (.iload_n 3, 1) := by decide +kernel
theorem dX5_worksOutFrom_80 : decode cX5_worksOutFrom 80 = .ok (.iastore, 1) := by decide +kernel
theorem dX5_worksOutFrom_81 : decode cX5_worksOutFrom 81 = .ok (.aload_n 0, 1) := by decide +kernel
theorem dX5_worksOutFrom_82 : decode cX5_worksOutFrom 82 = .ok (.getfield 40, 3) := by decide +kernel
theorem dX5_worksOutFrom_85 : decode cX5_worksOutFrom 85 = .ok (.iload_n 1, 1) := by decide +kernel
theorem dX5_worksOutFrom_86 : decode cX5_worksOutFrom 86 = .ok (.iload_n 2, 1) := by decide +kernel
theorem dX5_worksOutFrom_87 : decode cX5_worksOutFrom 87 = .ok (.iconst 1, 1) := by decide +kernel
theorem dX5_worksOutFrom_88 : decode cX5_worksOutFrom 88 = .ok (.iadd, 1) := by decide +kernel
theorem dX5_worksOutFrom_89 : decode cX5_worksOutFrom 89 = .ok (.iload_n 1, 1) := by decide +kernel
theorem dX5_worksOutFrom_90 : decode cX5_worksOutFrom 90 = .ok (.isub, 1) := by decide +kernel
theorem dX5_worksOutFrom_91 : decode cX5_worksOutFrom 91 = .ok (.iastore, 1) := by decide +kernel
theorem dX5_worksOutFrom_92 : decode cX5_worksOutFrom 92 = .ok (.iinc 2 1, 3) := by decide +kernel
theorem dX5_worksOutFrom_95 : decode cX5_worksOutFrom 95 = .ok (.goto (-86), 3) := by decide +kernel
theorem dX5_worksOutFrom_98 : decode cX5_worksOutFrom 98 = .ok (.return_, 1) := by decide +kernel
theorem dX5_breaksBest_0 : decode cX5_breaksBest 0 = .ok (.aload_n 0, 1) := by decide +kernel
theorem dX5_breaksBest_1 : decode cX5_breaksBest 1 = .ok (.invokevirtual 95, 3) := by decide +kernel
theorem dX5_breaksBest_4 : decode cX5_breaksBest 4 = .ok (.aload_n 0, 1) := by decide +kernel
theorem dX5_breaksBest_5 : decode cX5_breaksBest 5 = .ok (.getfield 37, 3) := by decide +kernel
theorem dX5_breaksBest_8 : decode cX5_breaksBest 8 = .ok (.aload_n 0, 1) := by decide +kernel
theorem dX5_breaksBest_9 : decode cX5_breaksBest 9 = .ok (.getfield 7, 3) := by decide +kernel
theorem dX5_breaksBest_12 : decode cX5_breaksBest 12 = .ok (.iconst 4, 1) := by decide +kernel
theorem dX5_breaksBest_13 : decode cX5_breaksBest 13 = .ok (.iaload, 1) := by decide +kernel
theorem dX5_breaksBest_14 : decode cX5_breaksBest 14 = .ok (.iconst 0, 1) := by decide +kernel
theorem dX5_breaksBest_15 : decode cX5_breaksBest 15 = .ok (.iastore, 1) := by decide +kernel
theorem dX5_breaksBest_16 : decode cX5_breaksBest 16 = .ok (.aload_n 0, 1) := by decide +kernel
theorem dX5_breaksBest_17 : decode cX5_breaksBest 17 = .ok (.getfield 7, 3) := by decide +kernel
theorem dX5_breaksBest_20 : decode cX5_breaksBest 20 = .ok (.iconst 4, 1) := by decide +kernel
theorem dX5_breaksBest_21 : decode cX5_breaksBest 21 = .ok (.iaload, 1) := by decide +kernel
theorem dX5_breaksBest_22 : decode cX5_breaksBest 22 = .ok (.iconst 1, 1) := by decide +kernel
theorem dX5_breaksBest_23 : decode cX5_breaksBest 23 = .ok (.isub, 1) := by decide +kernel
theorem dX5_breaksBest_24 : decode cX5_breaksBest 24 = .ok (.istore_n 1, 1) := by decide +kernel
theorem dX5_breaksBest_25 : decode cX5_breaksBest 25 = .ok (.iload_n 1, 1) := by decide +kernel
theorem dX5_breaksBest_26 : decode cX5_breaksBest 26 = .ok (.ifCond .lt 14, 3) := by decide +kernel
theorem dX5_breaksBest_29 : decode cX5_breaksBest 29 = .ok (.aload_n 0, 1) := by decide +kernel
theorem dX5_breaksBest_30 : decode cX5_breaksBest 30 = .ok (.iload_n 1, 1) := by decide +kernel
theorem dX5_breaksBest_31 : decode cX5_breaksBest 31 = .ok (.invokevirtual 104, 3) := by decide +kernel
theorem dX5_breaksBest_34 : decode cX5_breaksBest 34 = .ok (.iinc 1 (-1), 3) := by decide +kernel
theorem dX5_breaksBest_37 : decode cX5_breaksBest 37 = .ok (.goto (-12), 3) := by decide +kernel
theorem dX5_breaksBest_40 : decode cX5_breaksBest 40 = .ok (.aload_n 0, 1) := by decide +kernel
theorem dX5_breaksBest_41 : decode cX5_breaksBest 41 = .ok (.iconst 0, 1) := by decide +kernel
theorem dX5_breaksBest_42 : decode cX5_breaksBest 42 = .ok (.putfield 98, 3) := by decide +kernel
theorem dX5_breaksBest_45 : decode cX5_breaksBest 45 = .ok (.iconst 0, 1) := by decide +kernel
theorem dX5_breaksBest_46 : decode cX5_breaksBest 46 = .ok (.istore_n 1, 1) := by decide +kernel
theorem dX5_breaksBest_47 : decode cX5_breaksBest 47 = .ok (.iload_n 1, 1) := by decide +kernel
theorem dX5_breaksBest_48 : decode cX5_breaksBest 48 = .ok (.aload_n 0, 1) := by decide +kernel
theorem dX5_breaksBest_49 : decode cX5_breaksBest 49 = .ok (.getfield 7, 3) := by decide +kernel
theorem dX5_breaksBest_52 : decode cX5_breaksBest 52 = .ok (.iconst 4, 1) := by decide +kernel
theorem dX5_breaksBest_53 : decode cX5_breaksBest 53 = .ok (.iaload, 1) := by decide +kernel
theorem dX5_breaksBest_54 : decode cX5_breaksBest 54 = .ok (.if_icmp .ge 35, 3) := by decide +kernel
theorem dX5_breaksBest_57 : decode cX5_breaksBest 57 = .ok (.aload_n 0, 1) := by decide +kernel
theorem dX5_breaksBest_58 : decode cX5_breaksBest 58 = .ok (.getfield 34, 3) := by decide +kernel
theorem dX5_breaksBest_61 : decode cX5_breaksBest 61 = .ok (.aload_n 0, 1) := by decide +kernel
theorem dX5_breaksBest_62 : decode cX5_breaksBest 62 = .ok (.getfield 98, 3) := by decide +kernel
theorem dX5_breaksBest_65 : decode cX5_breaksBest 65 = .ok (.iload_n 1, 1) := by decide +kernel
theorem dX5_breaksBest_66 : decode cX5_breaksBest 66 = .ok (.iastore, 1) := by decide +kernel
theorem dX5_breaksBest_67 : decode cX5_breaksBest 67 = .ok (.aload_n 0, 1) := by decide +kernel
theorem dX5_breaksBest_68 : decode cX5_breaksBest 68 = .ok (.dup, 1) := by decide +kernel
theorem dX5_breaksBest_69 : decode cX5_breaksBest 69 = .ok (.getfield 98, 3) := by decide +kernel
theorem dX5_breaksBest_72 : decode cX5_breaksBest 72 = .ok (.iconst 1, 1) := by decide +kernel
theorem dX5_breaksBest_73 : decode cX5_breaksBest 73 = .ok (.iadd, 1) := by decide +kernel
theorem dX5_breaksBest_74 : decode cX5_breaksBest 74 = .ok (.putfield 98, 3) := by decide +kernel
theorem dX5_breaksBest_77 : decode cX5_breaksBest 77 = .ok (.iload_n 1, 1) := by decide +kernel
theorem dX5_breaksBest_78 : decode cX5_breaksBest 78 = .ok (.aload_n 0, 1) := by decide +kernel
theorem dX5_breaksBest_79 : decode cX5_breaksBest 79 = .ok (.getfield 40, 3) := by decide +kernel
theorem dX5_breaksBest_82 : decode cX5_breaksBest 82 = .ok (.iload_n 1, 1) := by decide +kernel
theorem dX5_breaksBest_83 : decode cX5_breaksBest 83 = .ok (.iaload, 1) := by decide +kernel
theorem dX5_breaksBest_84 : decode cX5_breaksBest 84 = .ok (.iadd, 1) := by decide +kernel
theorem dX5_breaksBest_85 : decode cX5_breaksBest 85 = .ok (.istore_n 1, 1) := by decide +kernel
theorem dX5_breaksBest_86 : decode cX5_breaksBest 86 = .ok (.goto (-39), 3) := by decide +kernel
theorem dX5_breaksBest_89 : decode cX5_breaksBest 89 = .ok (.aload_n 0, 1) := by decide +kernel
theorem dX5_breaksBest_90 : decode cX5_breaksBest 90 = .ok (.getfield 34, 3) := by decide +kernel
theorem dX5_breaksBest_93 : decode cX5_breaksBest 93 = .ok (.aload_n 0, 1) := by decide +kernel
theorem dX5_breaksBest_94 : decode cX5_breaksBest 94 = .ok (.getfield 98, 3) := by decide +kernel
theorem dX5_breaksBest_97 : decode cX5_breaksBest 97 = .ok (.aload_n 0, 1) := by decide +kernel
theorem dX5_breaksBest_98 : decode cX5_breaksBest 98 = .ok (.getfield 7, 3) := by decide +kernel
theorem dX5_breaksBest_101 : decode cX5_breaksBest 101 = .ok (.iconst 4, 1) := by decide +kernel
theorem dX5_breaksBest_102 : decode cX5_breaksBest 102 = .ok (.iaload, 1) := by decide +kernel
theorem dX5_breaksBest_103 : decode cX5_breaksBest 103 = .ok (.iastore, 1) := by decide +kernel
theorem dX5_breaksBest_104 : decode cX5_breaksBest 104 = .ok (.return_, 1) := by decide +kernel
theorem dX5_breaks_0 : decode cX5_breaks 0 = .ok (.iload_n 1, 1) := by decide +kernel
theorem dX5_breaks_1 : decode cX5_breaks 1 = .ok (.ifCond .ne 10, 3) := by decide +kernel
theorem dX5_breaks_4 : decode cX5_breaks 4 = .ok (.aload_n 0, 1) := by decide +kernel
theorem dX5_breaks_5 : decode cX5_breaks 5 = .ok (.invokevirtual 108, 3) := by decide +kernel
theorem dX5_breaks_8 : decode cX5_breaks 8 = .ok (.goto 7, 3) := by decide +kernel
theorem dX5_breaks_11 : decode cX5_breaks 11 = .ok (.aload_n 0, 1) := by decide +kernel
theorem dX5_breaks_12 : decode cX5_breaks 12 = .ok (.invokevirtual 111, 3) := by decide +kernel
theorem dX5_breaks_15 : decode cX5_breaks 15 = .ok (.return_, 1) := by decide +kernel
theorem dX5_bestBadness_0 : decode cX5_bestBadness 0 = .ok (.aload_n 0, 1) := by decide +kernel
theorem dX5_bestBadness_1 : decode cX5_bestBadness 1 = .ok (.invokevirtual 111, 3) := by decide +kernel
theorem dX5_bestBadness_4 : decode cX5_bestBadness 4 = .ok (.aload_n 0, 1) := by decide +kernel
theorem dX5_bestBadness_5 : decode cX5_bestBadness 5 = .ok (.getfield 37, 3) := by decide +kernel
theorem dX5_bestBadness_8 : decode cX5_bestBadness 8 = .ok (.iconst 0, 1) := by decide +kernel
theorem dX5_bestBadness_9 : decode cX5_bestBadness 9 = .ok (.iaload, 1) := by decide +kernel
theorem dX5_bestBadness_10 : decode cX5_bestBadness 10 = .ok (.ireturn, 1) := by decide +kernel
theorem dX5_lastOf_0 : decode cX5_lastOf 0 = .ok (.aload_n 0, 1) := by decide +kernel
theorem dX5_lastOf_1 : decode cX5_lastOf 1 = .ok (.getfield 34, 3) := by decide +kernel
theorem dX5_lastOf_4 : decode cX5_lastOf 4 = .ok (.iload_n 1, 1) := by decide +kernel
theorem dX5_lastOf_5 : decode cX5_lastOf 5 = .ok (.iconst 1, 1) := by decide +kernel
theorem dX5_lastOf_6 : decode cX5_lastOf 6 = .ok (.iadd, 1) := by decide +kernel
theorem dX5_lastOf_7 : decode cX5_lastOf 7 = .ok (.iaload, 1) := by decide +kernel
theorem dX5_lastOf_8 : decode cX5_lastOf 8 = .ok (.iconst 1, 1) := by decide +kernel
theorem dX5_lastOf_9 : decode cX5_lastOf 9 = .ok (.isub, 1) := by decide +kernel
theorem dX5_lastOf_10 : decode cX5_lastOf 10 = .ok (.ireturn, 1) := by decide +kernel
theorem dX5_bodyOfLine_0 : decode cX5_bodyOfLine 0 = .ok (.aload_n 0, 1) := by decide +kernel
theorem dX5_bodyOfLine_1 : decode cX5_bodyOfLine 1 = .ok (.aload_n 0, 1) := by decide +kernel
theorem dX5_bodyOfLine_2 : decode cX5_bodyOfLine 2 = .ok (.getfield 34, 3) := by decide +kernel
theorem dX5_bodyOfLine_5 : decode cX5_bodyOfLine 5 = .ok (.iload_n 1, 1) := by decide +kernel
theorem dX5_bodyOfLine_6 : decode cX5_bodyOfLine 6 = .ok (.iaload, 1) := by decide +kernel
theorem dX5_bodyOfLine_7 : decode cX5_bodyOfLine 7 = .ok (.aload_n 0, 1) := by decide +kernel
theorem dX5_bodyOfLine_8 : decode cX5_bodyOfLine 8 = .ok (.iload_n 1, 1) := by decide +kernel
theorem dX5_bodyOfLine_9 : decode cX5_bodyOfLine 9 = .ok (.invokevirtual 114, 3) := by decide +kernel
theorem dX5_bodyOfLine_12 : decode cX5_bodyOfLine 12 = .ok (.invokevirtual 92, 3) := by decide +kernel
theorem dX5_bodyOfLine_15 : decode cX5_bodyOfLine 15 = .ok (.ireturn, 1) := by decide +kernel
theorem dX5_fits_0 : decode cX5_fits 0 = .ok (.aload_n 0, 1) := by decide +kernel
theorem dX5_fits_1 : decode cX5_fits 1 = .ok (.iload_n 1, 1) := by decide +kernel
theorem dX5_fits_2 : decode cX5_fits 2 = .ok (.invokevirtual 117, 3) := by decide +kernel
theorem dX5_fits_5 : decode cX5_fits 5 = .ok (.aload_n 0, 1) := by decide +kernel
theorem dX5_fits_6 : decode cX5_fits 6 = .ok (.getfield 7, 3) := by decide +kernel
theorem dX5_fits_9 : decode cX5_fits 9 = .ok (.iconst 0, 1) := by decide +kernel
theorem dX5_fits_10 : decode cX5_fits 10 = .ok (.iaload, 1) := by decide +kernel
theorem dX5_fits_11 : decode cX5_fits 11 = .ok (.if_icmp .gt 7, 3) := by decide +kernel
theorem dX5_fits_14 : decode cX5_fits 14 = .ok (.iconst 1, 1) := by decide +kernel
theorem dX5_fits_15 : decode cX5_fits 15 = .ok (.goto 4, 3) := by decide +kernel
theorem dX5_fits_18 : decode cX5_fits 18 = .ok (.iconst 0, 1) := by decide +kernel
theorem dX5_fits_19 : decode cX5_fits 19 = .ok (.ireturn, 1) := by decide +kernel
theorem dX5_looksIndented_0 : decode cX5_looksIndented 0 = .ok (.aload_n 0, 1) := by decide +kernel
theorem dX5_looksIndented_1 : decode cX5_looksIndented 1 = .ok (.iload_n 1, 1) := by decide +kernel
theorem dX5_looksIndented_2 : decode cX5_looksIndented 2 = .ok (.invokevirtual 120, 3) := by decide +kernel
theorem dX5_looksIndented_5 : decode cX5_looksIndented 5 = .ok (.ifCond .eq 38, 3) := by decide +kernel
theorem dX5_looksIndented_8 : decode cX5_looksIndented 8 = .ok (.iload_n 1, 1) := by decide +kernel
theorem dX5_looksIndented_9 : decode cX5_looksIndented 9 = .ok (.aload_n 0, 1) := by decide +kernel
theorem dX5_looksIndented_10 : decode cX5_looksIndented 10 = .ok (.getfield 98, 3) := by decide +kernel
theorem dX5_looksIndented_13 : decode cX5_looksIndented 13 = .ok (.iconst 1, 1) := by decide +kernel
theorem dX5_looksIndented_14 : decode cX5_looksIndented 14 = .ok (.isub, 1) := by decide +kernel
theorem dX5_looksIndented_15 : decode cX5_looksIndented 15 = .ok (.if_icmp .ge 28, 3) := by decide +kernel
theorem dX5_looksIndented_18 : decode cX5_looksIndented 18 = .ok (.aload_n 0, 1) := by decide +kernel
theorem dX5_looksIndented_19 : decode cX5_looksIndented 19 = .ok (.getfield 7, 3) := by decide +kernel
theorem dX5_looksIndented_22 : decode cX5_looksIndented 22 = .ok (.iconst 0, 1) := by decide +kernel
theorem dX5_looksIndented_23 : decode cX5_looksIndented 23 = .ok (.iaload, 1) := by decide +kernel
theorem dX5_looksIndented_24 : decode cX5_looksIndented 24 = .ok (.aload_n 0, 1) := by decide +kernel
theorem dX5_looksIndented_25 : decode cX5_looksIndented 25 = .ok (.iload_n 1, 1) := by decide +kernel
theorem dX5_looksIndented_26 : decode cX5_looksIndented 26 = .ok (.invokevirtual 117, 3) := by decide +kernel
theorem dX5_looksIndented_29 : decode cX5_looksIndented 29 = .ok (.isub, 1) := by decide +kernel
theorem dX5_looksIndented_30 : decode cX5_looksIndented 30 = .ok (.aload_n 0, 1) := by decide +kernel
theorem dX5_looksIndented_31 : decode cX5_looksIndented 31 = .ok (.getfield 7, 3) := by decide +kernel
theorem dX5_looksIndented_34 : decode cX5_looksIndented 34 = .ok (.iconst 2, 1) := by decide +kernel
theorem dX5_looksIndented_35 : decode cX5_looksIndented 35 = .ok (.iaload, 1) := by decide +kernel
theorem dX5_looksIndented_36 : decode cX5_looksIndented 36 = .ok (.if_icmp .le 7, 3) := by decide +kernel
theorem dX5_looksIndented_39 : decode cX5_looksIndented 39 = .ok (.iconst 1, 1) := by decide +kernel
theorem dX5_looksIndented_40 : decode cX5_looksIndented 40 = .ok (.goto 4, 3) := by decide +kernel
theorem dX5_looksIndented_43 : decode cX5_looksIndented 43 = .ok (.iconst 0, 1) := by decide +kernel
theorem dX5_looksIndented_44 : decode cX5_looksIndented 44 = .ok (.ireturn, 1) := by decide +kernel
theorem dX5_isSetting_0 : decode cX5_isSetting 0 = .ok (.iload_n 0, 1) := by decide +kernel
theorem dX5_isSetting_1 : decode cX5_isSetting 1 = .ok (.tableswitch 71 0 3 #[31, 43, 53, 63], 31) := by decide +kernel
theorem dX5_isSetting_32 : decode cX5_isSetting 32 = .ok (.iload_n 1, 1) := by decide +kernel
theorem dX5_isSetting_33 : decode cX5_isSetting 33 = .ok (.i2l, 1) := by decide +kernel
theorem dX5_isSetting_34 : decode cX5_isSetting 34 = .ok (.ldc2_w 124, 3) := by decide +kernel
theorem dX5_isSetting_37 : decode cX5_isSetting 37 = .ok (.ldc2_w 126, 3) := by decide +kernel
theorem dX5_isSetting_40 : decode cX5_isSetting 40 = .ok (.invokestatic 58, 3) := by decide +kernel
theorem dX5_isSetting_43 : decode cX5_isSetting 43 = .ok (.ireturn, 1) := by decide +kernel
theorem dX5_isSetting_44 : decode cX5_isSetting 44 = .ok (.iload_n 1, 1) := by decide +kernel
theorem dX5_isSetting_45 : decode cX5_isSetting 45 = .ok (.i2l, 1) := by decide +kernel
theorem dX5_isSetting_46 : decode cX5_isSetting 46 = .ok (.lconst 1, 1) := by decide +kernel
theorem dX5_isSetting_47 : decode cX5_isSetting 47 = .ok (.ldc2_w 124, 3) := by decide +kernel
theorem dX5_isSetting_50 : decode cX5_isSetting 50 = .ok (.invokestatic 58, 3) := by decide +kernel
theorem dX5_isSetting_53 : decode cX5_isSetting 53 = .ok (.ireturn, 1) := by decide +kernel
theorem dX5_isSetting_54 : decode cX5_isSetting 54 = .ok (.iload_n 1, 1) := by decide +kernel
theorem dX5_isSetting_55 : decode cX5_isSetting 55 = .ok (.i2l, 1) := by decide +kernel
theorem dX5_isSetting_56 : decode cX5_isSetting 56 = .ok (.lconst 0, 1) := by decide +kernel
theorem dX5_isSetting_57 : decode cX5_isSetting 57 = .ok (.ldc2_w 128, 3) := by decide +kernel
theorem dX5_isSetting_60 : decode cX5_isSetting 60 = .ok (.invokestatic 58, 3) := by decide +kernel
theorem dX5_isSetting_63 : decode cX5_isSetting 63 = .ok (.ireturn, 1) := by decide +kernel
theorem dX5_isSetting_64 : decode cX5_isSetting 64 = .ok (.iload_n 1, 1) := by decide +kernel
theorem dX5_isSetting_65 : decode cX5_isSetting 65 = .ok (.i2l, 1) := by decide +kernel
theorem dX5_isSetting_66 : decode cX5_isSetting 66 = .ok (.lconst 0, 1) := by decide +kernel
theorem dX5_isSetting_67 : decode cX5_isSetting 67 = .ok (.lconst 1, 1) := by decide +kernel
theorem dX5_isSetting_68 : decode cX5_isSetting 68 = .ok (.invokestatic 58, 3) := by decide +kernel
theorem dX5_isSetting_71 : decode cX5_isSetting 71 = .ok (.ireturn, 1) := by decide +kernel
theorem dX5_isSetting_72 : decode cX5_isSetting 72 = .ok (.iconst 0, 1) := by decide +kernel
theorem dX5_isSetting_73 : decode cX5_isSetting 73 = .ok (.ireturn, 1) := by decide +kernel
theorem dX5_set_0 : decode cX5_set 0 = .ok (.iload_n 1, 1) := by decide +kernel
theorem dX5_set_1 : decode cX5_set 1 = .ok (.iload_n 2, 1) := by decide +kernel
theorem dX5_set_2 : decode cX5_set 2 = .ok (.invokestatic 130, 3) := by decide +kernel
theorem dX5_set_5 : decode cX5_set 5 = .ok (.ifCond .ne 7, 3) := by decide +kernel
theorem dX5_set_8 : decode cX5_set 8 = .ok (.sipush (-1002), 3) := by decide +kernel
theorem dX5_set_11 : decode cX5_set 11 = .ok (.ireturn, 1) := by decide +kernel
theorem dX5_set_12 : decode cX5_set 12 = .ok (.aload_n 0, 1) := by decide +kernel
theorem dX5_set_13 : decode cX5_set 13 = .ok (.invokevirtual 134, 3) := by decide +kernel
theorem dX5_set_16 : decode cX5_set 16 = .ok (.aload_n 0, 1) := by decide +kernel
theorem dX5_set_17 : decode cX5_set 17 = .ok (.getfield 7, 3) := by decide +kernel
theorem dX5_set_20 : decode cX5_set 20 = .ok (.iload_n 1, 1) := by decide +kernel
theorem dX5_set_21 : decode cX5_set 21 = .ok (.iaload, 1) := by decide +kernel
theorem dX5_set_22 : decode cX5_set 22 = .ok (.istore_n 3, 1) := by decide +kernel
theorem dX5_set_23 : decode cX5_set 23 = .ok (.aload_n 0, 1) := by decide +kernel
theorem dX5_set_24 : decode cX5_set 24 = .ok (.getfield 7, 3) := by decide +kernel
theorem dX5_set_27 : decode cX5_set 27 = .ok (.iload_n 1, 1) := by decide +kernel
theorem dX5_set_28 : decode cX5_set 28 = .ok (.iload_n 2, 1) := by decide +kernel
theorem dX5_set_29 : decode cX5_set 29 = .ok (.iastore, 1) := by decide +kernel
theorem dX5_set_30 : decode cX5_set 30 = .ok (.iload_n 3, 1) := by decide +kernel
theorem dX5_set_31 : decode cX5_set 31 = .ok (.ireturn, 1) := by decide +kernel
theorem dX5_sort_0 : decode cX5_sort 0 = .ok (.iload_n 1, 1) := by decide +kernel
theorem dX5_sort_1 : decode cX5_sort 1 = .ok (.invokestatic 137, 3) := by decide +kernel
theorem dX5_sort_4 : decode cX5_sort 4 = .ok (.ifCond .ne 7, 3) := by decide +kernel
theorem dX5_sort_7 : decode cX5_sort 7 = .ok (.sipush (-1001), 3) := by decide +kernel
theorem dX5_sort_10 : decode cX5_sort 10 = .ok (.ireturn, 1) := by decide +kernel
theorem dX5_sort_11 : decode cX5_sort 11 = .ok (.iload_n 2, 1) := by decide +kernel
theorem dX5_sort_12 : decode cX5_sort 12 = .ok (.i2l, 1) := by decide +kernel
theorem dX5_sort_13 : decode cX5_sort 13 = .ok (.lconst 1, 1) := by decide +kernel
theorem dX5_sort_14 : decode cX5_sort 14 = .ok (.ldc2_w 124, 3) := by decide +kernel
theorem dX5_sort_17 : decode cX5_sort 17 = .ok (.invokestatic 58, 3) := by decide +kernel
theorem dX5_sort_20 : decode cX5_sort 20 = .ok (.ifCond .eq 28, 3) := by decide +kernel
theorem dX5_sort_23 : decode cX5_sort 23 = .ok (.iload_n 3, 1) := by decide +kernel
theorem dX5_sort_24 : decode cX5_sort 24 = .ok (.i2l, 1) := by decide +kernel
theorem dX5_sort_25 : decode cX5_sort 25 = .ok (.lconst 0, 1) := by decide +kernel
theorem dX5_sort_26 : decode cX5_sort 26 = .ok (.ldc2_w 140, 3) := by decide +kernel
theorem dX5_sort_29 : decode cX5_sort 29 = .ok (.invokestatic 58, 3) := by decide +kernel
theorem dX5_sort_32 : decode cX5_sort 32 = .ok (.ifCond .eq 16, 3) := by decide +kernel
theorem dX5_sort_35 : decode cX5_sort 35 = .ok (.iload 4, 2) := by decide +kernel
theorem dX5_sort_37 : decode cX5_sort 37 = .ok (.i2l, 1) := by decide +kernel
theorem dX5_sort_38 : decode cX5_sort 38 = .ok (.lconst 0, 1) := by decide +kernel
theorem dX5_sort_39 : decode cX5_sort 39 = .ok (.ldc2_w 140, 3) := by decide +kernel
theorem dX5_sort_42 : decode cX5_sort 42 = .ok (.invokestatic 58, 3) := by decide +kernel
theorem dX5_sort_45 : decode cX5_sort 45 = .ok (.ifCond .ne 7, 3) := by decide +kernel
theorem dX5_sort_48 : decode cX5_sort 48 = .ok (.sipush (-1002), 3) := by decide +kernel
theorem dX5_sort_51 : decode cX5_sort 51 = .ok (.ireturn, 1) := by decide +kernel
theorem dX5_sort_52 : decode cX5_sort 52 = .ok (.aload_n 0, 1) := by decide +kernel
theorem dX5_sort_53 : decode cX5_sort 53 = .ok (.invokevirtual 134, 3) := by decide +kernel
theorem dX5_sort_56 : decode cX5_sort 56 = .ok (.aload_n 0, 1) := by decide +kernel
theorem dX5_sort_57 : decode cX5_sort 57 = .ok (.getfield 7, 3) := by decide +kernel
theorem dX5_sort_60 : decode cX5_sort 60 = .ok (.iconst 5, 1) := by decide +kernel
theorem dX5_sort_61 : decode cX5_sort 61 = .ok (.iload_n 1, 1) := by decide +kernel
theorem dX5_sort_62 : decode cX5_sort 62 = .ok (.iadd, 1) := by decide +kernel
theorem dX5_sort_63 : decode cX5_sort 63 = .ok (.iaload, 1) := by decide +kernel
theorem dX5_sort_64 : decode cX5_sort 64 = .ok (.istore 5, 2) := by decide +kernel
theorem dX5_sort_66 : decode cX5_sort 66 = .ok (.aload_n 0, 1) := by decide +kernel
theorem dX5_sort_67 : decode cX5_sort 67 = .ok (.getfield 7, 3) := by decide +kernel
theorem dX5_sort_70 : decode cX5_sort 70 = .ok (.iconst 5, 1) := by decide +kernel
theorem dX5_sort_71 : decode cX5_sort 71 = .ok (.iload_n 1, 1) := by decide +kernel
theorem dX5_sort_72 : decode cX5_sort 72 = .ok (.iadd, 1) := by decide +kernel
theorem dX5_sort_73 : decode cX5_sort 73 = .ok (.iload_n 2, 1) := by decide +kernel
theorem dX5_sort_74 : decode cX5_sort 74 = .ok (.iastore, 1) := by decide +kernel
theorem dX5_sort_75 : decode cX5_sort 75 = .ok (.aload_n 0, 1) := by decide +kernel
theorem dX5_sort_76 : decode cX5_sort 76 = .ok (.getfield 7, 3) := by decide +kernel
theorem dX5_sort_79 : decode cX5_sort 79 = .ok (.bipush 13, 2) := by decide +kernel
theorem dX5_sort_81 : decode cX5_sort 81 = .ok (.iload_n 1, 1) := by decide +kernel
theorem dX5_sort_82 : decode cX5_sort 82 = .ok (.iadd, 1) := by decide +kernel
theorem dX5_sort_83 : decode cX5_sort 83 = .ok (.iload_n 3, 1) := by decide +kernel
theorem dX5_sort_84 : decode cX5_sort 84 = .ok (.iastore, 1) := by decide +kernel
theorem dX5_sort_85 : decode cX5_sort 85 = .ok (.aload_n 0, 1) := by decide +kernel
theorem dX5_sort_86 : decode cX5_sort 86 = .ok (.getfield 7, 3) := by decide +kernel
theorem dX5_sort_89 : decode cX5_sort 89 = .ok (.bipush 21, 2) := by decide +kernel
theorem dX5_sort_91 : decode cX5_sort 91 = .ok (.iload_n 1, 1) := by decide +kernel
theorem dX5_sort_92 : decode cX5_sort 92 = .ok (.iadd, 1) := by decide +kernel
theorem dX5_sort_93 : decode cX5_sort 93 = .ok (.iload 4, 2) := by decide +kernel
theorem dX5_sort_95 : decode cX5_sort 95 = .ok (.iastore, 1) := by decide +kernel
theorem dX5_sort_96 : decode cX5_sort 96 = .ok (.iload 5, 2) := by decide +kernel
theorem dX5_sort_98 : decode cX5_sort 98 = .ok (.ireturn, 1) := by decide +kernel
theorem dX5_takesOut_0 : decode cX5_takesOut 0 = .ok (.bipush 29, 2) := by decide +kernel
theorem dX5_takesOut_2 : decode cX5_takesOut 2 = .ok (.bipush 11, 2) := by decide +kernel
theorem dX5_takesOut_4 : decode cX5_takesOut 4 = .ok (.iload_n 1, 1) := by decide +kernel
theorem dX5_takesOut_5 : decode cX5_takesOut 5 = .ok (.imul, 1) := by decide +kernel
theorem dX5_takesOut_6 : decode cX5_takesOut 6 = .ok (.iadd, 1) := by decide +kernel
theorem dX5_takesOut_7 : decode cX5_takesOut 7 = .ok (.istore_n 2, 1) := by decide +kernel
theorem dX5_takesOut_8 : decode cX5_takesOut 8 = .ok (.iload_n 2, 1) := by decide +kernel
theorem dX5_takesOut_9 : decode cX5_takesOut 9 = .ok (.sipush 282, 3) := by decide +kernel
theorem dX5_takesOut_12 : decode cX5_takesOut 12 = .ok (.if_icmp .ge 24, 3) := by decide +kernel
theorem dX5_takesOut_15 : decode cX5_takesOut 15 = .ok (.aload_n 0, 1) := by decide +kernel
theorem dX5_takesOut_16 : decode cX5_takesOut 16 = .ok (.getfield 7, 3) := by decide +kernel
theorem dX5_takesOut_19 : decode cX5_takesOut 19 = .ok (.iload_n 2, 1) := by decide +kernel
theorem dX5_takesOut_20 : decode cX5_takesOut 20 = .ok (.aload_n 0, 1) := by decide +kernel
theorem dX5_takesOut_21 : decode cX5_takesOut 21 = .ok (.getfield 7, 3) := by decide +kernel
theorem dX5_takesOut_24 : decode cX5_takesOut 24 = .ok (.iload_n 2, 1) := by decide +kernel
theorem dX5_takesOut_25 : decode cX5_takesOut 25 = .ok (.bipush 11, 2) := by decide +kernel
theorem dX5_takesOut_27 : decode cX5_takesOut 27 = .ok (.iadd, 1) := by decide +kernel
theorem dX5_takesOut_28 : decode cX5_takesOut 28 = .ok (.iaload, 1) := by decide +kernel
theorem dX5_takesOut_29 : decode cX5_takesOut 29 = .ok (.iastore, 1) := by decide +kernel
theorem dX5_takesOut_30 : decode cX5_takesOut 30 = .ok (.iinc 2 1, 3) := by decide +kernel
theorem dX5_takesOut_33 : decode cX5_takesOut 33 = .ok (.goto (-25), 3) := by decide +kernel
theorem dX5_takesOut_36 : decode cX5_takesOut 36 = .ok (.sipush 282, 3) := by decide +kernel
theorem dX5_takesOut_39 : decode cX5_takesOut 39 = .ok (.istore_n 2, 1) := by decide +kernel
theorem dX5_takesOut_40 : decode cX5_takesOut 40 = .ok (.iload_n 2, 1) := by decide +kernel
theorem dX5_takesOut_41 : decode cX5_takesOut 41 = .ok (.sipush 293, 3) := by decide +kernel
theorem dX5_takesOut_44 : decode cX5_takesOut 44 = .ok (.if_icmp .ge 16, 3) := by decide +kernel
theorem dX5_takesOut_47 : decode cX5_takesOut 47 = .ok (.aload_n 0, 1) := by decide +kernel
theorem dX5_takesOut_48 : decode cX5_takesOut 48 = .ok (.getfield 7, 3) := by decide +kernel
theorem dX5_takesOut_51 : decode cX5_takesOut 51 = .ok (.iload_n 2, 1) := by decide +kernel
theorem dX5_takesOut_52 : decode cX5_takesOut 52 = .ok (.iconst 0, 1) := by decide +kernel
theorem dX5_takesOut_53 : decode cX5_takesOut 53 = .ok (.iastore, 1) := by decide +kernel
theorem dX5_takesOut_54 : decode cX5_takesOut 54 = .ok (.iinc 2 1, 3) := by decide +kernel
theorem dX5_takesOut_57 : decode cX5_takesOut 57 = .ok (.goto (-17), 3) := by decide +kernel
theorem dX5_takesOut_60 : decode cX5_takesOut 60 = .ok (.aload_n 0, 1) := by decide +kernel
theorem dX5_takesOut_61 : decode cX5_takesOut 61 = .ok (.getfield 7, 3) := by decide +kernel
theorem dX5_takesOut_64 : decode cX5_takesOut 64 = .ok (.iconst 4, 1) := by decide +kernel
theorem dX5_takesOut_65 : decode cX5_takesOut 65 = .ok (.dup2, 1) := by decide +kernel
theorem dX5_takesOut_66 : decode cX5_takesOut 66 = .ok (.iaload, 1) := by decide +kernel
theorem dX5_takesOut_67 : decode cX5_takesOut 67 = .ok (.iconst 1, 1) := by decide +kernel
theorem dX5_takesOut_68 : decode cX5_takesOut 68 = .ok (.isub, 1) := by decide +kernel
theorem dX5_takesOut_69 : decode cX5_takesOut 69 = .ok (.iastore, 1) := by decide +kernel
theorem dX5_takesOut_70 : decode cX5_takesOut 70 = .ok (.return_, 1) := by decide +kernel
theorem dX5_drop_0 : decode cX5_drop 0 = .ok (.aload_n 0, 1) := by decide +kernel
theorem dX5_drop_1 : decode cX5_drop 1 = .ok (.iload_n 1, 1) := by decide +kernel
theorem dX5_drop_2 : decode cX5_drop 2 = .ok (.invokevirtual 142, 3) := by decide +kernel
theorem dX5_drop_5 : decode cX5_drop 5 = .ok (.ifCond .ne 7, 3) := by decide +kernel
theorem dX5_drop_8 : decode cX5_drop 8 = .ok (.sipush (-1001), 3) := by decide +kernel
theorem dX5_drop_11 : decode cX5_drop 11 = .ok (.ireturn, 1) := by decide +kernel
theorem dX5_drop_12 : decode cX5_drop 12 = .ok (.aload_n 0, 1) := by decide +kernel
theorem dX5_drop_13 : decode cX5_drop 13 = .ok (.invokevirtual 134, 3) := by decide +kernel
theorem dX5_drop_16 : decode cX5_drop 16 = .ok (.aload_n 0, 1) := by decide +kernel
theorem dX5_drop_17 : decode cX5_drop 17 = .ok (.iload_n 1, 1) := by decide +kernel
theorem dX5_drop_18 : decode cX5_drop 18 = .ok (.invokevirtual 80, 3) := by decide +kernel
theorem dX5_drop_21 : decode cX5_drop 21 = .ok (.istore_n 2, 1) := by decide +kernel
theorem dX5_drop_22 : decode cX5_drop 22 = .ok (.aload_n 0, 1) := by decide +kernel
theorem dX5_drop_23 : decode cX5_drop 23 = .ok (.iload_n 1, 1) := by decide +kernel
theorem dX5_drop_24 : decode cX5_drop 24 = .ok (.invokevirtual 145, 3) := by decide +kernel
theorem dX5_drop_27 : decode cX5_drop 27 = .ok (.iload_n 2, 1) := by decide +kernel
theorem dX5_drop_28 : decode cX5_drop 28 = .ok (.ireturn, 1) := by decide +kernel
theorem dX5_swap_0 : decode cX5_swap 0 = .ok (.aload_n 0, 1) := by decide +kernel
theorem dX5_swap_1 : decode cX5_swap 1 = .ok (.iload_n 1, 1) := by decide +kernel
theorem dX5_swap_2 : decode cX5_swap 2 = .ok (.invokevirtual 142, 3) := by decide +kernel
theorem dX5_swap_5 : decode cX5_swap 5 = .ok (.ifCond .eq 11, 3) := by decide +kernel
theorem dX5_swap_8 : decode cX5_swap 8 = .ok (.aload_n 0, 1) := by decide +kernel
theorem dX5_swap_9 : decode cX5_swap 9 = .ok (.iload_n 2, 1) := by decide +kernel
theorem dX5_swap_10 : decode cX5_swap 10 = .ok (.invokevirtual 142, 3) := by decide +kernel
theorem dX5_swap_13 : decode cX5_swap 13 = .ok (.ifCond .ne 7, 3) := by decide +kernel
theorem dX5_swap_16 : decode cX5_swap 16 = .ok (.sipush (-1001), 3) := by decide +kernel
theorem dX5_swap_19 : decode cX5_swap 19 = .ok (.ireturn, 1) := by decide +kernel
theorem dX5_swap_20 : decode cX5_swap 20 = .ok (.iload_n 1, 1) := by decide +kernel
theorem dX5_swap_21 : decode cX5_swap 21 = .ok (.iload_n 2, 1) := by decide +kernel
theorem dX5_swap_22 : decode cX5_swap 22 = .ok (.if_icmp .ne 7, 3) := by decide +kernel
theorem dX5_swap_25 : decode cX5_swap 25 = .ok (.sipush (-1002), 3) := by decide +kernel
theorem dX5_swap_28 : decode cX5_swap 28 = .ok (.ireturn, 1) := by decide +kernel
theorem dX5_swap_29 : decode cX5_swap 29 = .ok (.aload_n 0, 1) := by decide +kernel
theorem dX5_swap_30 : decode cX5_swap 30 = .ok (.invokevirtual 134, 3) := by decide +kernel
theorem dX5_swap_33 : decode cX5_swap 33 = .ok (.iconst 0, 1) := by decide +kernel
theorem dX5_swap_34 : decode cX5_swap 34 = .ok (.istore_n 3, 1) := by decide +kernel
theorem dX5_swap_35 : decode cX5_swap 35 = .ok (.iload_n 3, 1) := by decide +kernel
theorem dX5_swap_36 : decode cX5_swap 36 = .ok (.bipush 11, 2) := by decide +kernel
theorem dX5_swap_38 : decode cX5_swap 38 = .ok (.if_icmp .ge 69, 3) := by decide +kernel
theorem dX5_swap_41 : decode cX5_swap 41 = .ok (.aload_n 0, 1) := by decide +kernel
theorem dX5_swap_42 : decode cX5_swap 42 = .ok (.getfield 7, 3) := by decide +kernel
theorem dX5_swap_45 : decode cX5_swap 45 = .ok (.bipush 29, 2) := by decide +kernel
theorem dX5_swap_47 : decode cX5_swap 47 = .ok (.bipush 11, 2) := by decide +kernel
theorem dX5_swap_49 : decode cX5_swap 49 = .ok (.iload_n 1, 1) := by decide +kernel
theorem dX5_swap_50 : decode cX5_swap 50 = .ok (.imul, 1) := by decide +kernel
theorem dX5_swap_51 : decode cX5_swap 51 = .ok (.iadd, 1) := by decide +kernel
theorem dX5_swap_52 : decode cX5_swap 52 = .ok (.iload_n 3, 1) := by decide +kernel
theorem dX5_swap_53 : decode cX5_swap 53 = .ok (.iadd, 1) := by decide +kernel
theorem dX5_swap_54 : decode cX5_swap 54 = .ok (.iaload, 1) := by decide +kernel
theorem dX5_swap_55 : decode cX5_swap 55 = .ok (.istore 4, 2) := by decide +kernel
theorem dX5_swap_57 : decode cX5_swap 57 = .ok (.aload_n 0, 1) := by decide +kernel
theorem dX5_swap_58 : decode cX5_swap 58 = .ok (.getfield 7, 3) := by decide +kernel
theorem dX5_swap_61 : decode cX5_swap 61 = .ok (.bipush 29, 2) := by decide +kernel
theorem dX5_swap_63 : decode cX5_swap 63 = .ok (.bipush 11, 2) := by decide +kernel
theorem dX5_swap_65 : decode cX5_swap 65 = .ok (.iload_n 1, 1) := by decide +kernel
theorem dX5_swap_66 : decode cX5_swap 66 = .ok (.imul, 1) := by decide +kernel
theorem dX5_swap_67 : decode cX5_swap 67 = .ok (.iadd, 1) := by decide +kernel
theorem dX5_swap_68 : decode cX5_swap 68 = .ok (.iload_n 3, 1) := by decide +kernel
theorem dX5_swap_69 : decode cX5_swap 69 = .ok (.iadd, 1) := by decide +kernel
theorem dX5_swap_70 : decode cX5_swap 70 = .ok (.aload_n 0, 1) := by decide +kernel
theorem dX5_swap_71 : decode cX5_swap 71 = .ok (.getfield 7, 3) := by decide +kernel
theorem dX5_swap_74 : decode cX5_swap 74 = .ok (.bipush 29, 2) := by decide +kernel
theorem dX5_swap_76 : decode cX5_swap 76 = .ok (.bipush 11, 2) := by decide +kernel
theorem dX5_swap_78 : decode cX5_swap 78 = .ok (.iload_n 2, 1) := by decide +kernel
theorem dX5_swap_79 : decode cX5_swap 79 = .ok (.imul, 1) := by decide +kernel
theorem dX5_swap_80 : decode cX5_swap 80 = .ok (.iadd, 1) := by decide +kernel
theorem dX5_swap_81 : decode cX5_swap 81 = .ok (.iload_n 3, 1) := by decide +kernel
theorem dX5_swap_82 : decode cX5_swap 82 = .ok (.iadd, 1) := by decide +kernel
theorem dX5_swap_83 : decode cX5_swap 83 = .ok (.iaload, 1) := by decide +kernel
theorem dX5_swap_84 : decode cX5_swap 84 = .ok (.iastore, 1) := by decide +kernel
theorem dX5_swap_85 : decode cX5_swap 85 = .ok (.aload_n 0, 1) := by decide +kernel
theorem dX5_swap_86 : decode cX5_swap 86 = .ok (.getfield 7, 3) := by decide +kernel
theorem dX5_swap_89 : decode cX5_swap 89 = .ok (.bipush 29, 2) := by decide +kernel
theorem dX5_swap_91 : decode cX5_swap 91 = .ok (.bipush 11, 2) := by decide +kernel
theorem dX5_swap_93 : decode cX5_swap 93 = .ok (.iload_n 2, 1) := by decide +kernel
theorem dX5_swap_94 : decode cX5_swap 94 = .ok (.imul, 1) := by decide +kernel
theorem dX5_swap_95 : decode cX5_swap 95 = .ok (.iadd, 1) := by decide +kernel
theorem dX5_swap_96 : decode cX5_swap 96 = .ok (.iload_n 3, 1) := by decide +kernel
theorem dX5_swap_97 : decode cX5_swap 97 = .ok (.iadd, 1) := by decide +kernel
theorem dX5_swap_98 : decode cX5_swap 98 = .ok (.iload 4, 2) := by decide +kernel
theorem dX5_swap_100 : decode cX5_swap 100 = .ok (.iastore, 1) := by decide +kernel
theorem dX5_swap_101 : decode cX5_swap 101 = .ok (.iinc 3 1, 3) := by decide +kernel
theorem dX5_swap_104 : decode cX5_swap 104 = .ok (.goto (-69), 3) := by decide +kernel
theorem dX5_swap_107 : decode cX5_swap 107 = .ok (.aload_n 0, 1) := by decide +kernel
theorem dX5_swap_108 : decode cX5_swap 108 = .ok (.invokevirtual 108, 3) := by decide +kernel
theorem dX5_swap_111 : decode cX5_swap 111 = .ok (.aload_n 0, 1) := by decide +kernel
theorem dX5_swap_112 : decode cX5_swap 112 = .ok (.getfield 98, 3) := by decide +kernel
theorem dX5_swap_115 : decode cX5_swap 115 = .ok (.ireturn, 1) := by decide +kernel
theorem dX5_clear_0 : decode cX5_clear 0 = .ok (.aload_n 0, 1) := by decide +kernel
theorem dX5_clear_1 : decode cX5_clear 1 = .ok (.invokevirtual 134, 3) := by decide +kernel
theorem dX5_clear_4 : decode cX5_clear 4 = .ok (.aload_n 0, 1) := by decide +kernel
theorem dX5_clear_5 : decode cX5_clear 5 = .ok (.getfield 7, 3) := by decide +kernel
theorem dX5_clear_8 : decode cX5_clear 8 = .ok (.iconst 4, 1) := by decide +kernel
theorem dX5_clear_9 : decode cX5_clear 9 = .ok (.iaload, 1) := by decide +kernel
theorem dX5_clear_10 : decode cX5_clear 10 = .ok (.istore_n 1, 1) := by decide +kernel
theorem dX5_clear_11 : decode cX5_clear 11 = .ok (.bipush 29, 2) := by decide +kernel
theorem dX5_clear_13 : decode cX5_clear 13 = .ok (.istore_n 2, 1) := by decide +kernel
theorem dX5_clear_14 : decode cX5_clear 14 = .ok (.iload_n 2, 1) := by decide +kernel
theorem dX5_clear_15 : decode cX5_clear 15 = .ok (.sipush 293, 3) := by decide +kernel
theorem dX5_clear_18 : decode cX5_clear 18 = .ok (.if_icmp .ge 16, 3) := by decide +kernel
theorem dX5_clear_21 : decode cX5_clear 21 = .ok (.aload_n 0, 1) := by decide +kernel
theorem dX5_clear_22 : decode cX5_clear 22 = .ok (.getfield 7, 3) := by decide +kernel
theorem dX5_clear_25 : decode cX5_clear 25 = .ok (.iload_n 2, 1) := by decide +kernel
theorem dX5_clear_26 : decode cX5_clear 26 = .ok (.iconst 0, 1) := by decide +kernel
theorem dX5_clear_27 : decode cX5_clear 27 = .ok (.iastore, 1) := by decide +kernel
theorem dX5_clear_28 : decode cX5_clear 28 = .ok (.iinc 2 1, 3) := by decide +kernel
theorem dX5_clear_31 : decode cX5_clear 31 = .ok (.goto (-17), 3) := by decide +kernel
theorem dX5_clear_34 : decode cX5_clear 34 = .ok (.aload_n 0, 1) := by decide +kernel
theorem dX5_clear_35 : decode cX5_clear 35 = .ok (.getfield 7, 3) := by decide +kernel
theorem dX5_clear_38 : decode cX5_clear 38 = .ok (.iconst 4, 1) := by decide +kernel
theorem dX5_clear_39 : decode cX5_clear 39 = .ok (.iconst 0, 1) := by decide +kernel
theorem dX5_clear_40 : decode cX5_clear 40 = .ok (.iastore, 1) := by decide +kernel
theorem dX5_clear_41 : decode cX5_clear 41 = .ok (.iload_n 1, 1) := by decide +kernel
theorem dX5_clear_42 : decode cX5_clear 42 = .ok (.ireturn, 1) := by decide +kernel
theorem dX5_often_0 : decode cX5_often 0 = .ok (.iconst 0, 1) := by decide +kernel
theorem dX5_often_1 : decode cX5_often 1 = .ok (.istore_n 2, 1) := by decide +kernel
theorem dX5_often_2 : decode cX5_often 2 = .ok (.iconst 0, 1) := by decide +kernel
theorem dX5_often_3 : decode cX5_often 3 = .ok (.istore_n 3, 1) := by decide +kernel
theorem dX5_often_4 : decode cX5_often 4 = .ok (.iload_n 3, 1) := by decide +kernel
theorem dX5_often_5 : decode cX5_often 5 = .ok (.aload_n 0, 1) := by decide +kernel
theorem dX5_often_6 : decode cX5_often 6 = .ok (.getfield 7, 3) := by decide +kernel
theorem dX5_often_9 : decode cX5_often 9 = .ok (.iconst 4, 1) := by decide +kernel
theorem dX5_often_10 : decode cX5_often 10 = .ok (.iaload, 1) := by decide +kernel
theorem dX5_often_11 : decode cX5_often 11 = .ok (.if_icmp .ge 74, 3) := by decide +kernel
theorem dX5_often_14 : decode cX5_often 14 = .ok (.iconst 0, 1) := by decide +kernel
theorem dX5_often_15 : decode cX5_often 15 = .ok (.istore 4, 2) := by decide +kernel
theorem dX5_often_17 : decode cX5_often 17 = .ok (.iload 4, 2) := by decide +kernel
theorem dX5_often_19 : decode cX5_often 19 = .ok (.aload_n 0, 1) := by decide +kernel
theorem dX5_often_20 : decode cX5_often 20 = .ok (.iload_n 3, 1) := by decide +kernel
theorem dX5_often_21 : decode cX5_often 21 = .ok (.invokevirtual 66, 3) := by decide +kernel
theorem dX5_often_24 : decode cX5_often 24 = .ok (.if_icmp .ge 55, 3) := by decide +kernel
theorem dX5_often_27 : decode cX5_often 27 = .ok (.aload_n 0, 1) := by decide +kernel
theorem dX5_often_28 : decode cX5_often 28 = .ok (.iload_n 3, 1) := by decide +kernel
theorem dX5_often_29 : decode cX5_often 29 = .ok (.iload 4, 2) := by decide +kernel
theorem dX5_often_31 : decode cX5_often 31 = .ok (.invokevirtual 70, 3) := by decide +kernel
theorem dX5_often_34 : decode cX5_often 34 = .ok (.invokestatic 74, 3) := by decide +kernel
theorem dX5_often_37 : decode cX5_often 37 = .ok (.istore 5, 2) := by decide +kernel
theorem dX5_often_39 : decode cX5_often 39 = .ok (.iload_n 2, 1) := by decide +kernel
theorem dX5_often_40 : decode cX5_often 40 = .ok (.iload_n 1, 1) := by decide +kernel
theorem dX5_often_41 : decode cX5_often 41 = .ok (.sipush (-1006), 3) := by decide +kernel
theorem dX5_often_44 : decode cX5_often 44 = .ok (.if_icmp .ne 16, 3) := by decide +kernel
theorem dX5_often_47 : decode cX5_often 47 = .ok (.iload 5, 2) := by decide +kernel
theorem dX5_often_49 : decode cX5_often 49 = .ok (.ifCond .le 7, 3) := by decide +kernel
theorem dX5_often_52 : decode cX5_often 52 = .ok (.iconst 1, 1) := by decide +kernel
theorem dX5_often_53 : decode cX5_often 53 = .ok (.goto 18, 3) := by decide +kernel
theorem dX5_often_56 : decode cX5_often 56 = .ok (.iconst 0, 1) := by decide +kernel
theorem dX5_often_57 : decode cX5_often 57 = .ok (.goto 14, 3) := by decide +kernel
theorem dX5_often_60 : decode cX5_often 60 = .ok (.iload 5, 2) := by decide +kernel
theorem dX5_often_62 : decode cX5_often 62 = .ok (.iload_n 1, 1) := by decide +kernel
theorem dX5_often_63 : decode cX5_often 63 = .ok (.if_icmp .ne 7, 3) := by decide +kernel
theorem dX5_often_66 : decode cX5_often 66 = .ok (.iconst 1, 1) := by decide +kernel
theorem dX5_often_67 : decode cX5_often 67 = .ok (.goto 4, 3) := by decide +kernel
theorem dX5_often_70 : decode cX5_often 70 = .ok (.iconst 0, 1) := by decide +kernel
theorem dX5_often_71 : decode cX5_often 71 = .ok (.iadd, 1) := by decide +kernel
theorem dX5_often_72 : decode cX5_often 72 = .ok (.istore_n 2, 1) := by decide +kernel
theorem dX5_often_73 : decode cX5_often 73 = .ok (.iinc 4 1, 3) := by decide +kernel
theorem dX5_often_76 : decode cX5_often 76 = .ok (.goto (-59), 3) := by decide +kernel
theorem dX5_often_79 : decode cX5_often 79 = .ok (.iinc 3 1, 3) := by decide +kernel
theorem dX5_often_82 : decode cX5_often 82 = .ok (.goto (-78), 3) := by decide +kernel
theorem dX5_often_85 : decode cX5_often 85 = .ok (.iload_n 2, 1) := by decide +kernel
theorem dX5_often_86 : decode cX5_often 86 = .ok (.ireturn, 1) := by decide +kernel
theorem dX5_sortOf_0 : decode cX5_sortOf 0 = .ok (.iload_n 1, 1) := by decide +kernel
theorem dX5_sortOf_1 : decode cX5_sortOf 1 = .ok (.invokestatic 137, 3) := by decide +kernel
theorem dX5_sortOf_4 : decode cX5_sortOf 4 = .ok (.ifCond .ne 7, 3) := by decide +kernel
theorem dX5_sortOf_7 : decode cX5_sortOf 7 = .ok (.sipush (-1001), 3) := by decide +kernel
theorem dX5_sortOf_10 : decode cX5_sortOf 10 = .ok (.ireturn, 1) := by decide +kernel
theorem dX5_sortOf_11 : decode cX5_sortOf 11 = .ok (.iload_n 2, 1) := by decide +kernel
theorem dX5_sortOf_12 : decode cX5_sortOf 12 = .ok (.tableswitch 76 0 5 #[40, 40, 40, 54, 62, 70], 40) := by decide +kernel
theorem dX5_sortOf_52 : decode cX5_sortOf 52 = .ok (.aload_n 0, 1) := by decide +kernel
theorem dX5_sortOf_53 : decode cX5_sortOf 53 = .ok (.getfield 7, 3) := by decide +kernel
theorem dX5_sortOf_56 : decode cX5_sortOf 56 = .ok (.iconst 5, 1) := by decide +kernel
theorem dX5_sortOf_57 : decode cX5_sortOf 57 = .ok (.bipush 8, 2) := by decide +kernel
theorem dX5_sortOf_59 : decode cX5_sortOf 59 = .ok (.iload_n 2, 1) := by decide +kernel
theorem dX5_sortOf_60 : decode cX5_sortOf 60 = .ok (.imul, 1) := by decide +kernel
theorem dX5_sortOf_61 : decode cX5_sortOf 61 = .ok (.iadd, 1) := by decide +kernel
theorem dX5_sortOf_62 : decode cX5_sortOf 62 = .ok (.iload_n 1, 1) := by decide +kernel
theorem dX5_sortOf_63 : decode cX5_sortOf 63 = .ok (.iadd, 1) := by decide +kernel
theorem dX5_sortOf_64 : decode cX5_sortOf 64 = .ok (.iaload, 1) := by decide +kernel
theorem dX5_sortOf_65 : decode cX5_sortOf 65 = .ok (.ireturn, 1) := by decide +kernel
theorem dX5_sortOf_66 : decode cX5_sortOf 66 = .ok (.aload_n 0, 1) := by decide +kernel
theorem dX5_sortOf_67 : decode cX5_sortOf 67 = .ok (.iload_n 1, 1) := by decide +kernel
theorem dX5_sortOf_68 : decode cX5_sortOf 68 = .ok (.bipush 13, 2) := by decide +kernel
theorem dX5_sortOf_70 : decode cX5_sortOf 70 = .ok (.invokevirtual 77, 3) := by decide +kernel
theorem dX5_sortOf_73 : decode cX5_sortOf 73 = .ok (.ireturn, 1) := by decide +kernel
theorem dX5_sortOf_74 : decode cX5_sortOf 74 = .ok (.aload_n 0, 1) := by decide +kernel
theorem dX5_sortOf_75 : decode cX5_sortOf 75 = .ok (.iload_n 1, 1) := by decide +kernel
theorem dX5_sortOf_76 : decode cX5_sortOf 76 = .ok (.bipush 21, 2) := by decide +kernel
theorem dX5_sortOf_78 : decode cX5_sortOf 78 = .ok (.invokevirtual 77, 3) := by decide +kernel
theorem dX5_sortOf_81 : decode cX5_sortOf 81 = .ok (.ireturn, 1) := by decide +kernel
theorem dX5_sortOf_82 : decode cX5_sortOf 82 = .ok (.aload_n 0, 1) := by decide +kernel
theorem dX5_sortOf_83 : decode cX5_sortOf 83 = .ok (.iload_n 1, 1) := by decide +kernel
theorem dX5_sortOf_84 : decode cX5_sortOf 84 = .ok (.invokevirtual 148, 3) := by decide +kernel
theorem dX5_sortOf_87 : decode cX5_sortOf 87 = .ok (.ireturn, 1) := by decide +kernel
theorem dX5_sortOf_88 : decode cX5_sortOf 88 = .ok (.sipush (-1002), 3) := by decide +kernel
theorem dX5_sortOf_91 : decode cX5_sortOf 91 = .ok (.ireturn, 1) := by decide +kernel
theorem dX5_lineOf_0 : decode cX5_lineOf 0 = .ok (.aload_n 0, 1) := by decide +kernel
theorem dX5_lineOf_1 : decode cX5_lineOf 1 = .ok (.iload_n 1, 1) := by decide +kernel
theorem dX5_lineOf_2 : decode cX5_lineOf 2 = .ok (.invokevirtual 151, 3) := by decide +kernel
theorem dX5_lineOf_5 : decode cX5_lineOf 5 = .ok (.iconst 0, 1) := by decide +kernel
theorem dX5_lineOf_6 : decode cX5_lineOf 6 = .ok (.istore_n 3, 1) := by decide +kernel
theorem dX5_lineOf_7 : decode cX5_lineOf 7 = .ok (.aload_n 0, 1) := by decide +kernel
theorem dX5_lineOf_8 : decode cX5_lineOf 8 = .ok (.getfield 34, 3) := by decide +kernel
theorem dX5_lineOf_11 : decode cX5_lineOf 11 = .ok (.iload_n 3, 1) := by decide +kernel
theorem dX5_lineOf_12 : decode cX5_lineOf 12 = .ok (.iconst 1, 1) := by decide +kernel
theorem dX5_lineOf_13 : decode cX5_lineOf 13 = .ok (.iadd, 1) := by decide +kernel
theorem dX5_lineOf_14 : decode cX5_lineOf 14 = .ok (.iaload, 1) := by decide +kernel
theorem dX5_lineOf_15 : decode cX5_lineOf 15 = .ok (.iload_n 2, 1) := by decide +kernel
theorem dX5_lineOf_16 : decode cX5_lineOf 16 = .ok (.if_icmp .gt 9, 3) := by decide +kernel
theorem dX5_lineOf_19 : decode cX5_lineOf 19 = .ok (.iinc 3 1, 3) := by decide +kernel
theorem dX5_lineOf_22 : decode cX5_lineOf 22 = .ok (.goto (-15), 3) := by decide +kernel
theorem dX5_lineOf_25 : decode cX5_lineOf 25 = .ok (.iload_n 3, 1) := by decide +kernel
theorem dX5_lineOf_26 : decode cX5_lineOf 26 = .ok (.ireturn, 1) := by decide +kernel
theorem dX5_word_0 : decode cX5_word 0 = .ok (.aload_n 0, 1) := by decide +kernel
theorem dX5_word_1 : decode cX5_word 1 = .ok (.iload_n 1, 1) := by decide +kernel
theorem dX5_word_2 : decode cX5_word 2 = .ok (.invokevirtual 142, 3) := by decide +kernel
theorem dX5_word_5 : decode cX5_word 5 = .ok (.ifCond .ne 7, 3) := by decide +kernel
theorem dX5_word_8 : decode cX5_word 8 = .ok (.sipush (-1001), 3) := by decide +kernel
theorem dX5_word_11 : decode cX5_word 11 = .ok (.ireturn, 1) := by decide +kernel
theorem dX5_word_12 : decode cX5_word 12 = .ok (.iload_n 2, 1) := by decide +kernel
theorem dX5_word_13 : decode cX5_word 13 = .ok (.tableswitch 52 0 3 #[31, 37, 43, 43], 31) := by decide +kernel
theorem dX5_word_44 : decode cX5_word 44 = .ok (.aload_n 0, 1) := by decide +kernel
theorem dX5_word_45 : decode cX5_word 45 = .ok (.iload_n 1, 1) := by decide +kernel
theorem dX5_word_46 : decode cX5_word 46 = .ok (.invokevirtual 66, 3) := by decide +kernel
theorem dX5_word_49 : decode cX5_word 49 = .ok (.ireturn, 1) := by decide +kernel
theorem dX5_word_50 : decode cX5_word 50 = .ok (.aload_n 0, 1) := by decide +kernel
theorem dX5_word_51 : decode cX5_word 51 = .ok (.iload_n 1, 1) := by decide +kernel
theorem dX5_word_52 : decode cX5_word 52 = .ok (.invokevirtual 80, 3) := by decide +kernel
theorem dX5_word_55 : decode cX5_word 55 = .ok (.ireturn, 1) := by decide +kernel
theorem dX5_word_56 : decode cX5_word 56 = .ok (.aload_n 0, 1) := by decide +kernel
theorem dX5_word_57 : decode cX5_word 57 = .ok (.iload_n 2, 1) := by decide +kernel
theorem dX5_word_58 : decode cX5_word 58 = .ok (.iconst 2, 1) := by decide +kernel
theorem dX5_word_59 : decode cX5_word 59 = .ok (.isub, 1) := by decide +kernel
theorem dX5_word_60 : decode cX5_word 60 = .ok (.iload_n 1, 1) := by decide +kernel
theorem dX5_word_61 : decode cX5_word 61 = .ok (.invokevirtual 154, 3) := by decide +kernel
theorem dX5_word_64 : decode cX5_word 64 = .ok (.ireturn, 1) := by decide +kernel
theorem dX5_word_65 : decode cX5_word 65 = .ok (.iload_n 2, 1) := by decide +kernel
theorem dX5_word_66 : decode cX5_word 66 = .ok (.ifCond .ge 9, 3) := by decide +kernel
theorem dX5_word_69 : decode cX5_word 69 = .ok (.sipush (-1002), 3) := by decide +kernel
theorem dX5_word_72 : decode cX5_word 72 = .ok (.goto 28, 3) := by decide +kernel
theorem dX5_word_75 : decode cX5_word 75 = .ok (.iload_n 2, 1) := by decide +kernel
theorem dX5_word_76 : decode cX5_word 76 = .ok (.iconst 4, 1) := by decide +kernel
theorem dX5_word_77 : decode cX5_word 77 = .ok (.isub, 1) := by decide +kernel
theorem dX5_word_78 : decode cX5_word 78 = .ok (.aload_n 0, 1) := by decide +kernel
theorem dX5_word_79 : decode cX5_word 79 = .ok (.iload_n 1, 1) := by decide +kernel
theorem dX5_word_80 : decode cX5_word 80 = .ok (.invokevirtual 66, 3) := by decide +kernel
theorem dX5_word_83 : decode cX5_word 83 = .ok (.if_icmp .ge 14, 3) := by decide +kernel
theorem dX5_word_86 : decode cX5_word 86 = .ok (.aload_n 0, 1) := by decide +kernel
theorem dX5_word_87 : decode cX5_word 87 = .ok (.iload_n 1, 1) := by decide +kernel
theorem dX5_word_88 : decode cX5_word 88 = .ok (.iload_n 2, 1) := by decide +kernel
theorem dX5_word_89 : decode cX5_word 89 = .ok (.iconst 4, 1) := by decide +kernel
theorem dX5_word_90 : decode cX5_word 90 = .ok (.isub, 1) := by decide +kernel
theorem dX5_word_91 : decode cX5_word 91 = .ok (.invokevirtual 70, 3) := by decide +kernel
theorem dX5_word_94 : decode cX5_word 94 = .ok (.goto 6, 3) := by decide +kernel
theorem dX5_word_97 : decode cX5_word 97 = .ok (.sipush (-1006), 3) := by decide +kernel
theorem dX5_word_100 : decode cX5_word 100 = .ok (.ireturn, 1) := by decide +kernel
theorem dX5_isWay_0 : decode cX5_isWay 0 = .ok (.iload_n 0, 1) := by decide +kernel
theorem dX5_isWay_1 : decode cX5_isWay 1 = .ok (.ifCond .eq 8, 3) := by decide +kernel
theorem dX5_isWay_4 : decode cX5_isWay 4 = .ok (.iload_n 0, 1) := by decide +kernel
theorem dX5_isWay_5 : decode cX5_isWay 5 = .ok (.iconst 1, 1) := by decide +kernel
theorem dX5_isWay_6 : decode cX5_isWay 6 = .ok (.if_icmp .ne 7, 3) := by decide +kernel
theorem dX5_isWay_9 : decode cX5_isWay 9 = .ok (.iconst 1, 1) := by decide +kernel
theorem dX5_isWay_10 : decode cX5_isWay 10 = .ok (.goto 4, 3) := by decide +kernel
theorem dX5_isWay_13 : decode cX5_isWay 13 = .ok (.iconst 0, 1) := by decide +kernel
theorem dX5_isWay_14 : decode cX5_isWay 14 = .ok (.ireturn, 1) := by decide +kernel
theorem dX5_line_0 : decode cX5_line 0 = .ok (.iload_n 1, 1) := by decide +kernel
theorem dX5_line_1 : decode cX5_line 1 = .ok (.invokestatic 157, 3) := by decide +kernel
theorem dX5_line_4 : decode cX5_line 4 = .ok (.ifCond .eq 15, 3) := by decide +kernel
theorem dX5_line_7 : decode cX5_line 7 = .ok (.iload_n 3, 1) := by decide +kernel
theorem dX5_line_8 : decode cX5_line 8 = .ok (.i2l, 1) := by decide +kernel
theorem dX5_line_9 : decode cX5_line 9 = .ok (.lconst 0, 1) := by decide +kernel
theorem dX5_line_10 : decode cX5_line 10 = .ok (.ldc2_w 160, 3) := by decide +kernel
theorem dX5_line_13 : decode cX5_line 13 = .ok (.invokestatic 58, 3) := by decide +kernel
theorem dX5_line_16 : decode cX5_line 16 = .ok (.ifCond .ne 7, 3) := by decide +kernel
theorem dX5_line_19 : decode cX5_line 19 = .ok (.sipush (-1002), 3) := by decide +kernel
theorem dX5_line_22 : decode cX5_line 22 = .ok (.ireturn, 1) := by decide +kernel
theorem dX5_line_23 : decode cX5_line 23 = .ok (.aload_n 0, 1) := by decide +kernel
theorem dX5_line_24 : decode cX5_line 24 = .ok (.iload_n 1, 1) := by decide +kernel
theorem dX5_line_25 : decode cX5_line 25 = .ok (.invokevirtual 151, 3) := by decide +kernel
theorem dX5_line_28 : decode cX5_line 28 = .ok (.iload_n 2, 1) := by decide +kernel
theorem dX5_line_29 : decode cX5_line 29 = .ok (.i2l, 1) := by decide +kernel
theorem dX5_line_30 : decode cX5_line 30 = .ok (.lconst 0, 1) := by decide +kernel
theorem dX5_line_31 : decode cX5_line 31 = .ok (.aload_n 0, 1) := by decide +kernel
theorem dX5_line_32 : decode cX5_line 32 = .ok (.getfield 98, 3) := by decide +kernel
theorem dX5_line_35 : decode cX5_line 35 = .ok (.i2l, 1) := by decide +kernel
theorem dX5_line_36 : decode cX5_line 36 = .ok (.lconst 1, 1) := by decide +kernel
theorem dX5_line_37 : decode cX5_line 37 = .ok (.lsub, 1) := by decide +kernel
theorem dX5_line_38 : decode cX5_line 38 = .ok (.invokestatic 58, 3) := by decide +kernel
theorem dX5_line_41 : decode cX5_line 41 = .ok (.ifCond .ne 7, 3) := by decide +kernel
theorem dX5_line_44 : decode cX5_line 44 = .ok (.sipush (-1001), 3) := by decide +kernel
theorem dX5_line_47 : decode cX5_line 47 = .ok (.ireturn, 1) := by decide +kernel
theorem dX5_line_48 : decode cX5_line 48 = .ok (.aload_n 0, 1) := by decide +kernel
theorem dX5_line_49 : decode cX5_line 49 = .ok (.getfield 34, 3) := by decide +kernel
theorem dX5_line_52 : decode cX5_line 52 = .ok (.iload_n 2, 1) := by decide +kernel
theorem dX5_line_53 : decode cX5_line 53 = .ok (.iaload, 1) := by decide +kernel
theorem dX5_line_54 : decode cX5_line 54 = .ok (.istore 4, 2) := by decide +kernel
theorem dX5_line_56 : decode cX5_line 56 = .ok (.aload_n 0, 1) := by decide +kernel
theorem dX5_line_57 : decode cX5_line 57 = .ok (.iload_n 2, 1) := by decide +kernel
theorem dX5_line_58 : decode cX5_line 58 = .ok (.invokevirtual 114, 3) := by decide +kernel
theorem dX5_line_61 : decode cX5_line 61 = .ok (.istore 5, 2) := by decide +kernel
theorem dX5_line_63 : decode cX5_line 63 = .ok (.iload_n 3, 1) := by decide +kernel
theorem dX5_line_64 : decode cX5_line 64 = .ok (.tableswitch 135 0 7 #[48, 51, 59, 68, 75, 82, 91, 121], 48) := by decide +kernel
theorem dX5_line_112 : decode cX5_line 112 = .ok (.iload 4, 2) := by decide +kernel
theorem dX5_line_114 : decode cX5_line 114 = .ok (.ireturn, 1) := by decide +kernel
theorem dX5_line_115 : decode cX5_line 115 = .ok (.iload 5, 2) := by decide +kernel
theorem dX5_line_117 : decode cX5_line 117 = .ok (.iconst 1, 1) := by decide +kernel
theorem dX5_line_118 : decode cX5_line 118 = .ok (.iadd, 1) := by decide +kernel
theorem dX5_line_119 : decode cX5_line 119 = .ok (.iload 4, 2) := by decide +kernel
theorem dX5_line_121 : decode cX5_line 121 = .ok (.isub, 1) := by decide +kernel
theorem dX5_line_122 : decode cX5_line 122 = .ok (.ireturn, 1) := by decide +kernel
theorem dX5_line_123 : decode cX5_line 123 = .ok (.aload_n 0, 1) := by decide +kernel
theorem dX5_line_124 : decode cX5_line 124 = .ok (.iload 4, 2) := by decide +kernel
theorem dX5_line_126 : decode cX5_line 126 = .ok (.iload 5, 2) := by decide +kernel
theorem dX5_line_128 : decode cX5_line 128 = .ok (.invokevirtual 89, 3) := by decide +kernel
theorem dX5_line_131 : decode cX5_line 131 = .ok (.ireturn, 1) := by decide +kernel
theorem dX5_line_132 : decode cX5_line 132 = .ok (.aload_n 0, 1) := by decide +kernel
theorem dX5_line_133 : decode cX5_line 133 = .ok (.iload 4, 2) := by decide +kernel
theorem dX5_line_135 : decode cX5_line 135 = .ok (.invokevirtual 83, 3) := by decide +kernel
theorem dX5_line_138 : decode cX5_line 138 = .ok (.ireturn, 1) := by decide +kernel
theorem dX5_line_139 : decode cX5_line 139 = .ok (.aload_n 0, 1) := by decide +kernel
theorem dX5_line_140 : decode cX5_line 140 = .ok (.iload 5, 2) := by decide +kernel
theorem dX5_line_142 : decode cX5_line 142 = .ok (.invokevirtual 86, 3) := by decide +kernel
theorem dX5_line_145 : decode cX5_line 145 = .ok (.ireturn, 1) := by decide +kernel
theorem dX5_line_146 : decode cX5_line 146 = .ok (.aload_n 0, 1) := by decide +kernel
theorem dX5_line_147 : decode cX5_line 147 = .ok (.iload 4, 2) := by decide +kernel
theorem dX5_line_149 : decode cX5_line 149 = .ok (.iload 5, 2) := by decide +kernel
theorem dX5_line_151 : decode cX5_line 151 = .ok (.invokevirtual 92, 3) := by decide +kernel
theorem dX5_line_154 : decode cX5_line 154 = .ok (.ireturn, 1) := by decide +kernel
theorem dX5_line_155 : decode cX5_line 155 = .ok (.aload_n 0, 1) := by decide +kernel
theorem dX5_line_156 : decode cX5_line 156 = .ok (.iload_n 2, 1) := by decide +kernel
theorem dX5_line_157 : decode cX5_line 157 = .ok (.invokevirtual 120, 3) := by decide +kernel
theorem dX5_line_160 : decode cX5_line 160 = .ok (.ifCond .eq 21, 3) := by decide +kernel
theorem dX5_line_163 : decode cX5_line 163 = .ok (.aload_n 0, 1) := by decide +kernel
theorem dX5_line_164 : decode cX5_line 164 = .ok (.getfield 7, 3) := by decide +kernel
theorem dX5_line_167 : decode cX5_line 167 = .ok (.iconst 0, 1) := by decide +kernel
theorem dX5_line_168 : decode cX5_line 168 = .ok (.iaload, 1) := by decide +kernel
theorem dX5_line_169 : decode cX5_line 169 = .ok (.aload_n 0, 1) := by decide +kernel
theorem dX5_line_170 : decode cX5_line 170 = .ok (.iload 4, 2) := by decide +kernel
theorem dX5_line_172 : decode cX5_line 172 = .ok (.iload 5, 2) := by decide +kernel
theorem dX5_line_174 : decode cX5_line 174 = .ok (.invokevirtual 92, 3) := by decide +kernel
theorem dX5_line_177 : decode cX5_line 177 = .ok (.isub, 1) := by decide +kernel
theorem dX5_line_178 : decode cX5_line 178 = .ok (.goto 6, 3) := by decide +kernel
theorem dX5_line_181 : decode cX5_line 181 = .ok (.sipush (-1006), 3) := by decide +kernel
theorem dX5_line_184 : decode cX5_line 184 = .ok (.ireturn, 1) := by decide +kernel
theorem dX5_line_185 : decode cX5_line 185 = .ok (.aload_n 0, 1) := by decide +kernel
theorem dX5_line_186 : decode cX5_line 186 = .ok (.iload_n 2, 1) := by decide +kernel
theorem dX5_line_187 : decode cX5_line 187 = .ok (.invokevirtual 120, 3) := by decide +kernel
theorem dX5_line_190 : decode cX5_line 190 = .ok (.ifCond .eq 7, 3) := by decide +kernel
theorem dX5_line_193 : decode cX5_line 193 = .ok (.iconst 1, 1) := by decide +kernel
theorem dX5_line_194 : decode cX5_line 194 = .ok (.goto 4, 3) := by decide +kernel
theorem dX5_line_197 : decode cX5_line 197 = .ok (.iconst 0, 1) := by decide +kernel
theorem dX5_line_198 : decode cX5_line 198 = .ok (.ireturn, 1) := by decide +kernel
theorem dX5_line_199 : decode cX5_line 199 = .ok (.aload_n 0, 1) := by decide +kernel
theorem dX5_line_200 : decode cX5_line 200 = .ok (.iload_n 2, 1) := by decide +kernel
theorem dX5_line_201 : decode cX5_line 201 = .ok (.invokevirtual 162, 3) := by decide +kernel
theorem dX5_line_204 : decode cX5_line 204 = .ok (.ifCond .eq 7, 3) := by decide +kernel
theorem dX5_line_207 : decode cX5_line 207 = .ok (.iconst 1, 1) := by decide +kernel
theorem dX5_line_208 : decode cX5_line 208 = .ok (.goto 4, 3) := by decide +kernel
theorem dX5_line_211 : decode cX5_line 211 = .ok (.iconst 0, 1) := by decide +kernel
theorem dX5_line_212 : decode cX5_line 212 = .ok (.ireturn, 1) := by decide +kernel
theorem dX5_ofLines_0 : decode cX5_ofLines 0 = .ok (.iconst 0, 1) := by decide +kernel
theorem dX5_ofLines_1 : decode cX5_ofLines 1 = .ok (.istore_n 2, 1) := by decide +kernel
theorem dX5_ofLines_2 : decode cX5_ofLines 2 = .ok (.sipush (-1006), 3) := by decide +kernel
theorem dX5_ofLines_5 : decode cX5_ofLines 5 = .ok (.istore_n 3, 1) := by decide +kernel
theorem dX5_ofLines_6 : decode cX5_ofLines 6 = .ok (.iconst 0, 1) := by decide +kernel
theorem dX5_ofLines_7 : decode cX5_ofLines 7 = .ok (.istore 4, 2) := by decide +kernel
theorem dX5_ofLines_9 : decode cX5_ofLines 9 = .ok (.iload 4, 2) := by decide +kernel
theorem dX5_ofLines_11 : decode cX5_ofLines 11 = .ok (.aload_n 0, 1) := by decide +kernel
theorem dX5_ofLines_12 : decode cX5_ofLines 12 = .ok (.getfield 98, 3) := by decide +kernel
theorem dX5_ofLines_15 : decode cX5_ofLines 15 = .ok (.if_icmp .ge 94, 3) := by decide +kernel
theorem dX5_ofLines_18 : decode cX5_ofLines 18 = .ok (.aload_n 0, 1) := by decide +kernel
theorem dX5_ofLines_19 : decode cX5_ofLines 19 = .ok (.iload 4, 2) := by decide +kernel
theorem dX5_ofLines_21 : decode cX5_ofLines 21 = .ok (.invokevirtual 117, 3) := by decide +kernel
theorem dX5_ofLines_24 : decode cX5_ofLines 24 = .ok (.istore 5, 2) := by decide +kernel
theorem dX5_ofLines_26 : decode cX5_ofLines 26 = .ok (.iload 4, 2) := by decide +kernel
theorem dX5_ofLines_28 : decode cX5_ofLines 28 = .ok (.ifCond .eq 9, 3) := by decide +kernel
theorem dX5_ofLines_31 : decode cX5_ofLines 31 = .ok (.iload 5, 2) := by decide +kernel
theorem dX5_ofLines_33 : decode cX5_ofLines 33 = .ok (.iload_n 3, 1) := by decide +kernel
theorem dX5_ofLines_34 : decode cX5_ofLines 34 = .ok (.if_icmp .le 8, 3) := by decide +kernel
theorem dX5_ofLines_37 : decode cX5_ofLines 37 = .ok (.iload 5, 2) := by decide +kernel
theorem dX5_ofLines_39 : decode cX5_ofLines 39 = .ok (.goto 4, 3) := by decide +kernel
theorem dX5_ofLines_42 : decode cX5_ofLines 42 = .ok (.iload_n 3, 1) := by decide +kernel
theorem dX5_ofLines_43 : decode cX5_ofLines 43 = .ok (.istore_n 3, 1) := by decide +kernel
theorem dX5_ofLines_44 : decode cX5_ofLines 44 = .ok (.iload_n 2, 1) := by decide +kernel
theorem dX5_ofLines_45 : decode cX5_ofLines 45 = .ok (.iload_n 1, 1) := by decide +kernel
theorem dX5_ofLines_46 : decode cX5_ofLines 46 = .ok (.iconst 1, 1) := by decide +kernel
theorem dX5_ofLines_47 : decode cX5_ofLines 47 = .ok (.if_icmp .ne 23, 3) := by decide +kernel
theorem dX5_ofLines_50 : decode cX5_ofLines 50 = .ok (.aload_n 0, 1) := by decide +kernel
theorem dX5_ofLines_51 : decode cX5_ofLines 51 = .ok (.aload_n 0, 1) := by decide +kernel
theorem dX5_ofLines_52 : decode cX5_ofLines 52 = .ok (.getfield 34, 3) := by decide +kernel
theorem dX5_ofLines_55 : decode cX5_ofLines 55 = .ok (.iload 4, 2) := by decide +kernel
theorem dX5_ofLines_57 : decode cX5_ofLines 57 = .ok (.iaload, 1) := by decide +kernel
theorem dX5_ofLines_58 : decode cX5_ofLines 58 = .ok (.aload_n 0, 1) := by decide +kernel
theorem dX5_ofLines_59 : decode cX5_ofLines 59 = .ok (.iload 4, 2) := by decide +kernel
theorem dX5_ofLines_61 : decode cX5_ofLines 61 = .ok (.invokevirtual 114, 3) := by decide +kernel
theorem dX5_ofLines_64 : decode cX5_ofLines 64 = .ok (.invokevirtual 101, 3) := by decide +kernel
theorem dX5_ofLines_67 : decode cX5_ofLines 67 = .ok (.goto 34, 3) := by decide +kernel
theorem dX5_ofLines_70 : decode cX5_ofLines 70 = .ok (.iload_n 1, 1) := by decide +kernel
theorem dX5_ofLines_71 : decode cX5_ofLines 71 = .ok (.iconst 2, 1) := by decide +kernel
theorem dX5_ofLines_72 : decode cX5_ofLines 72 = .ok (.if_icmp .ne 15, 3) := by decide +kernel
theorem dX5_ofLines_75 : decode cX5_ofLines 75 = .ok (.aload_n 0, 1) := by decide +kernel
theorem dX5_ofLines_76 : decode cX5_ofLines 76 = .ok (.iload 4, 2) := by decide +kernel
theorem dX5_ofLines_78 : decode cX5_ofLines 78 = .ok (.invokevirtual 162, 3) := by decide +kernel
theorem dX5_ofLines_81 : decode cX5_ofLines 81 = .ok (.ifCond .eq 19, 3) := by decide +kernel
theorem dX5_ofLines_84 : decode cX5_ofLines 84 = .ok (.goto 12, 3) := by decide +kernel
theorem dX5_ofLines_87 : decode cX5_ofLines 87 = .ok (.aload_n 0, 1) := by decide +kernel
theorem dX5_ofLines_88 : decode cX5_ofLines 88 = .ok (.iload 4, 2) := by decide +kernel
theorem dX5_ofLines_90 : decode cX5_ofLines 90 = .ok (.invokevirtual 120, 3) := by decide +kernel
theorem dX5_ofLines_93 : decode cX5_ofLines 93 = .ok (.ifCond .ne 7, 3) := by decide +kernel
theorem dX5_ofLines_96 : decode cX5_ofLines 96 = .ok (.iconst 1, 1) := by decide +kernel
theorem dX5_ofLines_97 : decode cX5_ofLines 97 = .ok (.goto 4, 3) := by decide +kernel
theorem dX5_ofLines_100 : decode cX5_ofLines 100 = .ok (.iconst 0, 1) := by decide +kernel
theorem dX5_ofLines_101 : decode cX5_ofLines 101 = .ok (.iadd, 1) := by decide +kernel
theorem dX5_ofLines_102 : decode cX5_ofLines 102 = .ok (.istore_n 2, 1) := by decide +kernel
theorem dX5_ofLines_103 : decode cX5_ofLines 103 = .ok (.iinc 4 1, 3) := by decide +kernel
theorem dX5_ofLines_106 : decode cX5_ofLines 106 = .ok (.goto (-97), 3) := by decide +kernel
theorem dX5_ofLines_109 : decode cX5_ofLines 109 = .ok (.iload_n 1, 1) := by decide +kernel
theorem dX5_ofLines_110 : decode cX5_ofLines 110 = .ok (.iconst 4, 1) := by decide +kernel
theorem dX5_ofLines_111 : decode cX5_ofLines 111 = .ok (.if_icmp .ne 7, 3) := by decide +kernel
theorem dX5_ofLines_114 : decode cX5_ofLines 114 = .ok (.iload_n 3, 1) := by decide +kernel
theorem dX5_ofLines_115 : decode cX5_ofLines 115 = .ok (.goto 4, 3) := by decide +kernel
theorem dX5_ofLines_118 : decode cX5_ofLines 118 = .ok (.iload_n 2, 1) := by decide +kernel
theorem dX5_ofLines_119 : decode cX5_ofLines 119 = .ok (.ireturn, 1) := by decide +kernel
theorem dX5_lines_0 : decode cX5_lines 0 = .ok (.iload_n 1, 1) := by decide +kernel
theorem dX5_lines_1 : decode cX5_lines 1 = .ok (.invokestatic 157, 3) := by decide +kernel
theorem dX5_lines_4 : decode cX5_lines 4 = .ok (.ifCond .eq 15, 3) := by decide +kernel
theorem dX5_lines_7 : decode cX5_lines 7 = .ok (.iload_n 2, 1) := by decide +kernel
theorem dX5_lines_8 : decode cX5_lines 8 = .ok (.i2l, 1) := by decide +kernel
theorem dX5_lines_9 : decode cX5_lines 9 = .ok (.lconst 0, 1) := by decide +kernel
theorem dX5_lines_10 : decode cX5_lines 10 = .ok (.ldc2_w 165, 3) := by decide +kernel
theorem dX5_lines_13 : decode cX5_lines 13 = .ok (.invokestatic 58, 3) := by decide +kernel
theorem dX5_lines_16 : decode cX5_lines 16 = .ok (.ifCond .ne 7, 3) := by decide +kernel
theorem dX5_lines_19 : decode cX5_lines 19 = .ok (.sipush (-1002), 3) := by decide +kernel
theorem dX5_lines_22 : decode cX5_lines 22 = .ok (.ireturn, 1) := by decide +kernel
theorem dX5_lines_23 : decode cX5_lines 23 = .ok (.aload_n 0, 1) := by decide +kernel
theorem dX5_lines_24 : decode cX5_lines 24 = .ok (.iload_n 1, 1) := by decide +kernel
theorem dX5_lines_25 : decode cX5_lines 25 = .ok (.invokevirtual 151, 3) := by decide +kernel
theorem dX5_lines_28 : decode cX5_lines 28 = .ok (.iload_n 2, 1) := by decide +kernel
theorem dX5_lines_29 : decode cX5_lines 29 = .ok (.ifCond .ne 10, 3) := by decide +kernel
theorem dX5_lines_32 : decode cX5_lines 32 = .ok (.aload_n 0, 1) := by decide +kernel
theorem dX5_lines_33 : decode cX5_lines 33 = .ok (.getfield 98, 3) := by decide +kernel
theorem dX5_lines_36 : decode cX5_lines 36 = .ok (.goto 8, 3) := by decide +kernel
theorem dX5_lines_39 : decode cX5_lines 39 = .ok (.aload_n 0, 1) := by decide +kernel
theorem dX5_lines_40 : decode cX5_lines 40 = .ok (.iload_n 2, 1) := by decide +kernel
theorem dX5_lines_41 : decode cX5_lines 41 = .ok (.invokevirtual 167, 3) := by decide +kernel
theorem dX5_lines_44 : decode cX5_lines 44 = .ok (.ireturn, 1) := by decide +kernel
theorem dX5_areAlike_0 : decode cX5_areAlike 0 = .ok (.aload_n 0, 1) := by decide +kernel
theorem dX5_areAlike_1 : decode cX5_areAlike 1 = .ok (.invokevirtual 108, 3) := by decide +kernel
theorem dX5_areAlike_4 : decode cX5_areAlike 4 = .ok (.iconst 0, 1) := by decide +kernel
theorem dX5_areAlike_5 : decode cX5_areAlike 5 = .ok (.istore_n 1, 1) := by decide +kernel
theorem dX5_areAlike_6 : decode cX5_areAlike 6 = .ok (.iconst 0, 1) := by decide +kernel
theorem dX5_areAlike_7 : decode cX5_areAlike 7 = .ok (.istore_n 2, 1) := by decide +kernel
theorem dX5_areAlike_8 : decode cX5_areAlike 8 = .ok (.iload_n 2, 1) := by decide +kernel
theorem dX5_areAlike_9 : decode cX5_areAlike 9 = .ok (.aload_n 0, 1) := by decide +kernel
theorem dX5_areAlike_10 : decode cX5_areAlike 10 = .ok (.getfield 98, 3) := by decide +kernel
theorem dX5_areAlike_13 : decode cX5_areAlike 13 = .ok (.if_icmp .ge 20, 3) := by decide +kernel
theorem dX5_areAlike_16 : decode cX5_areAlike 16 = .ok (.iload_n 1, 1) := by decide +kernel
theorem dX5_areAlike_17 : decode cX5_areAlike 17 = .ok (.iconst 1, 1) := by decide +kernel
theorem dX5_areAlike_18 : decode cX5_areAlike 18 = .ok (.aload_n 0, 1) := by decide +kernel
theorem dX5_areAlike_19 : decode cX5_areAlike 19 = .ok (.getfield 34, 3) := by decide +kernel
theorem dX5_areAlike_22 : decode cX5_areAlike 22 = .ok (.iload_n 2, 1) := by decide +kernel
theorem dX5_areAlike_23 : decode cX5_areAlike 23 = .ok (.iaload, 1) := by decide +kernel
theorem dX5_areAlike_24 : decode cX5_areAlike 24 = .ok (.ishl, 1) := by decide +kernel
theorem dX5_areAlike_25 : decode cX5_areAlike 25 = .ok (.ior, 1) := by decide +kernel
theorem dX5_areAlike_26 : decode cX5_areAlike 26 = .ok (.istore_n 1, 1) := by decide +kernel
theorem dX5_areAlike_27 : decode cX5_areAlike 27 = .ok (.iinc 2 1, 3) := by decide +kernel
theorem dX5_areAlike_30 : decode cX5_areAlike 30 = .ok (.goto (-22), 3) := by decide +kernel
theorem dX5_areAlike_33 : decode cX5_areAlike 33 = .ok (.aload_n 0, 1) := by decide +kernel
theorem dX5_areAlike_34 : decode cX5_areAlike 34 = .ok (.invokevirtual 111, 3) := by decide +kernel
theorem dX5_areAlike_37 : decode cX5_areAlike 37 = .ok (.iconst 0, 1) := by decide +kernel
theorem dX5_areAlike_38 : decode cX5_areAlike 38 = .ok (.istore_n 2, 1) := by decide +kernel
theorem dX5_areAlike_39 : decode cX5_areAlike 39 = .ok (.iconst 0, 1) := by decide +kernel
theorem dX5_areAlike_40 : decode cX5_areAlike 40 = .ok (.istore_n 3, 1) := by decide +kernel
theorem dX5_areAlike_41 : decode cX5_areAlike 41 = .ok (.iload_n 3, 1) := by decide +kernel
theorem dX5_areAlike_42 : decode cX5_areAlike 42 = .ok (.aload_n 0, 1) := by decide +kernel
theorem dX5_areAlike_43 : decode cX5_areAlike 43 = .ok (.getfield 98, 3) := by decide +kernel
theorem dX5_areAlike_46 : decode cX5_areAlike 46 = .ok (.if_icmp .ge 20, 3) := by decide +kernel
theorem dX5_areAlike_49 : decode cX5_areAlike 49 = .ok (.iload_n 2, 1) := by decide +kernel
theorem dX5_areAlike_50 : decode cX5_areAlike 50 = .ok (.iconst 1, 1) := by decide +kernel
theorem dX5_areAlike_51 : decode cX5_areAlike 51 = .ok (.aload_n 0, 1) := by decide +kernel
theorem dX5_areAlike_52 : decode cX5_areAlike 52 = .ok (.getfield 34, 3) := by decide +kernel
theorem dX5_areAlike_55 : decode cX5_areAlike 55 = .ok (.iload_n 3, 1) := by decide +kernel
theorem dX5_areAlike_56 : decode cX5_areAlike 56 = .ok (.iaload, 1) := by decide +kernel
theorem dX5_areAlike_57 : decode cX5_areAlike 57 = .ok (.ishl, 1) := by decide +kernel
theorem dX5_areAlike_58 : decode cX5_areAlike 58 = .ok (.ior, 1) := by decide +kernel
theorem dX5_areAlike_59 : decode cX5_areAlike 59 = .ok (.istore_n 2, 1) := by decide +kernel
theorem dX5_areAlike_60 : decode cX5_areAlike 60 = .ok (.iinc 3 1, 3) := by decide +kernel
theorem dX5_areAlike_63 : decode cX5_areAlike 63 = .ok (.goto (-22), 3) := by decide +kernel
theorem dX5_areAlike_66 : decode cX5_areAlike 66 = .ok (.iload_n 1, 1) := by decide +kernel
theorem dX5_areAlike_67 : decode cX5_areAlike 67 = .ok (.iload_n 2, 1) := by decide +kernel
theorem dX5_areAlike_68 : decode cX5_areAlike 68 = .ok (.if_icmp .ne 7, 3) := by decide +kernel
theorem dX5_areAlike_71 : decode cX5_areAlike 71 = .ok (.iconst 1, 1) := by decide +kernel
theorem dX5_areAlike_72 : decode cX5_areAlike 72 = .ok (.goto 4, 3) := by decide +kernel
theorem dX5_areAlike_75 : decode cX5_areAlike 75 = .ok (.iconst 0, 1) := by decide +kernel
theorem dX5_areAlike_76 : decode cX5_areAlike 76 = .ok (.ireturn, 1) := by decide +kernel
theorem dX5_allSigns_0 : decode cX5_allSigns 0 = .ok (.iconst 0, 1) := by decide +kernel
theorem dX5_allSigns_1 : decode cX5_allSigns 1 = .ok (.istore_n 1, 1) := by decide +kernel
theorem dX5_allSigns_2 : decode cX5_allSigns 2 = .ok (.iconst 0, 1) := by decide +kernel
theorem dX5_allSigns_3 : decode cX5_allSigns 3 = .ok (.istore_n 2, 1) := by decide +kernel
theorem dX5_allSigns_4 : decode cX5_allSigns 4 = .ok (.iload_n 2, 1) := by decide +kernel
theorem dX5_allSigns_5 : decode cX5_allSigns 5 = .ok (.aload_n 0, 1) := by decide +kernel
theorem dX5_allSigns_6 : decode cX5_allSigns 6 = .ok (.getfield 7, 3) := by decide +kernel
theorem dX5_allSigns_9 : decode cX5_allSigns 9 = .ok (.iconst 4, 1) := by decide +kernel
theorem dX5_allSigns_10 : decode cX5_allSigns 10 = .ok (.iaload, 1) := by decide +kernel
theorem dX5_allSigns_11 : decode cX5_allSigns 11 = .ok (.if_icmp .ge 17, 3) := by decide +kernel
theorem dX5_allSigns_14 : decode cX5_allSigns 14 = .ok (.iload_n 1, 1) := by decide +kernel
theorem dX5_allSigns_15 : decode cX5_allSigns 15 = .ok (.aload_n 0, 1) := by decide +kernel
theorem dX5_allSigns_16 : decode cX5_allSigns 16 = .ok (.iload_n 2, 1) := by decide +kernel
theorem dX5_allSigns_17 : decode cX5_allSigns 17 = .ok (.invokevirtual 66, 3) := by decide +kernel
theorem dX5_allSigns_20 : decode cX5_allSigns 20 = .ok (.iadd, 1) := by decide +kernel
theorem dX5_allSigns_21 : decode cX5_allSigns 21 = .ok (.istore_n 1, 1) := by decide +kernel
theorem dX5_allSigns_22 : decode cX5_allSigns 22 = .ok (.iinc 2 1, 3) := by decide +kernel
theorem dX5_allSigns_25 : decode cX5_allSigns 25 = .ok (.goto (-21), 3) := by decide +kernel
theorem dX5_allSigns_28 : decode cX5_allSigns 28 = .ok (.iload_n 1, 1) := by decide +kernel
theorem dX5_allSigns_29 : decode cX5_allSigns 29 = .ok (.ireturn, 1) := by decide +kernel
theorem dX5_count_0 : decode cX5_count 0 = .ok (.iload_n 1, 1) := by decide +kernel
theorem dX5_count_1 : decode cX5_count 1 = .ok (.tableswitch 63 5 9 #[35, 40, 48, 53, 58], 35) := by decide +kernel
theorem dX5_count_36 : decode cX5_count 36 = .ok (.aload_n 0, 1) := by decide +kernel
theorem dX5_count_37 : decode cX5_count 37 = .ok (.invokevirtual 170, 3) := by decide +kernel
theorem dX5_count_40 : decode cX5_count 40 = .ok (.ireturn, 1) := by decide +kernel
theorem dX5_count_41 : decode cX5_count 41 = .ok (.aload_n 0, 1) := by decide +kernel
theorem dX5_count_42 : decode cX5_count 42 = .ok (.sipush (-1006), 3) := by decide +kernel
theorem dX5_count_45 : decode cX5_count 45 = .ok (.invokevirtual 148, 3) := by decide +kernel
theorem dX5_count_48 : decode cX5_count 48 = .ok (.ireturn, 1) := by decide +kernel
theorem dX5_count_49 : decode cX5_count 49 = .ok (.aload_n 0, 1) := by decide +kernel
theorem dX5_count_50 : decode cX5_count 50 = .ok (.invokevirtual 174, 3) := by decide +kernel
theorem dX5_count_53 : decode cX5_count 53 = .ok (.ireturn, 1) := by decide +kernel
