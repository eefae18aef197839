theorem dX3_sortAt_3 : decode cX3_sortAt 3 = .ok (.invokevirtual 41, 3) := by decide +kernel
theorem dX3_sortAt_6 : decode cX3_sortAt 6 = .ok (.invokestatic 45, 3) := by decide +kernel
theorem dX3_sortAt_9 : decode cX3_sortAt 9 = .ok (.iconst 0, 1) := by decide +kernel
theorem dX3_sortAt_10 : decode cX3_sortAt 10 = .ok (.invokestatic 49, 3) := by decide +kernel
theorem dX3_sortAt_13 : decode cX3_sortAt 13 = .ok (.ireturn, 1) := by decide +kernel
theorem dX3_widthOf_0 : decode cX3_widthOf 0 = .ok (.iconst 0, 1) := by decide +kernel
theorem dX3_widthOf_1 : decode cX3_widthOf 1 = .ok (.istore_n 2, 1) := by decide +kernel
theorem dX3_widthOf_2 : decode cX3_widthOf 2 = .ok (.iconst 0, 1) := by decide +kernel
theorem dX3_widthOf_3 : decode cX3_widthOf 3 = .ok (.istore_n 3, 1) := by decide +kernel
theorem dX3_widthOf_4 : decode cX3_widthOf 4 = .ok (.iload_n 3, 1) := by decide +kernel
theorem dX3_widthOf_5 : decode cX3_widthOf 5 = .ok (.aload_n 0, 1) := by decide +kernel
theorem dX3_widthOf_6 : decode cX3_widthOf 6 = .ok (.getfield 28, 3) := by decide +kernel
theorem dX3_widthOf_9 : decode cX3_widthOf 9 = .ok (.iload_n 1, 1) := by decide +kernel
theorem dX3_widthOf_10 : decode cX3_widthOf 10 = .ok (.iaload, 1) := by decide +kernel
theorem dX3_widthOf_11 : decode cX3_widthOf 11 = .ok (.if_icmp .ge 23, 3) := by decide +kernel
theorem dX3_widthOf_14 : decode cX3_widthOf 14 = .ok (.iload_n 2, 1) := by decide +kernel
theorem dX3_widthOf_15 : decode cX3_widthOf 15 = .ok (.aload_n 0, 1) := by decide +kernel
theorem dX3_widthOf_16 : decode cX3_widthOf 16 = .ok (.getfield 15, 3) := by decide +kernel
theorem dX3_widthOf_19 : decode cX3_widthOf 19 = .ok (.aload_n 0, 1) := by decide +kernel
theorem dX3_widthOf_20 : decode cX3_widthOf 20 = .ok (.iload_n 1, 1) := by decide +kernel
theorem dX3_widthOf_21 : decode cX3_widthOf 21 = .ok (.iload_n 3, 1) := by decide +kernel
theorem dX3_widthOf_22 : decode cX3_widthOf 22 = .ok (.invokevirtual 55, 3) := by decide +kernel
theorem dX3_widthOf_25 : decode cX3_widthOf 25 = .ok (.iaload, 1) := by decide +kernel
theorem dX3_widthOf_26 : decode cX3_widthOf 26 = .ok (.iadd, 1) := by decide +kernel
theorem dX3_widthOf_27 : decode cX3_widthOf 27 = .ok (.istore_n 2, 1) := by decide +kernel
theorem dX3_widthOf_28 : decode cX3_widthOf 28 = .ok (.iinc 3 1, 3) := by decide +kernel
theorem dX3_widthOf_31 : decode cX3_widthOf 31 = .ok (.goto (-27), 3) := by decide +kernel
theorem dX3_widthOf_34 : decode cX3_widthOf 34 = .ok (.iload_n 2, 1) := by decide +kernel
theorem dX3_widthOf_35 : decode cX3_widthOf 35 = .ok (.ireturn, 1) := by decide +kernel
theorem dX3_countSigns_0 : decode cX3_countSigns 0 = .ok (.iconst 0, 1) := by decide +kernel
theorem dX3_countSigns_1 : decode cX3_countSigns 1 = .ok (.istore_n 1, 1) := by decide +kernel
theorem dX3_countSigns_2 : decode cX3_countSigns 2 = .ok (.iconst 0, 1) := by decide +kernel
theorem dX3_countSigns_3 : decode cX3_countSigns 3 = .ok (.istore_n 2, 1) := by decide +kernel
theorem dX3_countSigns_4 : decode cX3_countSigns 4 = .ok (.iload_n 2, 1) := by decide +kernel
theorem dX3_countSigns_5 : decode cX3_countSigns 5 = .ok (.aload_n 0, 1) := by decide +kernel
theorem dX3_countSigns_6 : decode cX3_countSigns 6 = .ok (.getfield 31, 3) := by decide +kernel
theorem dX3_countSigns_9 : decode cX3_countSigns 9 = .ok (.if_icmp .ge 18, 3) := by decide +kernel
theorem dX3_countSigns_12 : decode cX3_countSigns 12 = .ok (.iload_n 1, 1) := by decide +kernel
theorem dX3_countSigns_13 : decode cX3_countSigns 13 = .ok (.aload_n 0, 1) := by decide +kernel
theorem dX3_countSigns_14 : decode cX3_countSigns 14 = .ok (.getfield 28, 3) := by decide +kernel
theorem dX3_countSigns_17 : decode cX3_countSigns 17 = .ok (.iload_n 2, 1) := by decide +kernel
theorem dX3_countSigns_18 : decode cX3_countSigns 18 = .ok (.iaload, 1) := by decide +kernel
theorem dX3_countSigns_19 : decode cX3_countSigns 19 = .ok (.iadd, 1) := by decide +kernel
theorem dX3_countSigns_20 : decode cX3_countSigns 20 = .ok (.istore_n 1, 1) := by decide +kernel
theorem dX3_countSigns_21 : decode cX3_countSigns 21 = .ok (.iinc 2 1, 3) := by decide +kernel
theorem dX3_countSigns_24 : decode cX3_countSigns 24 = .ok (.goto (-20), 3) := by decide +kernel
theorem dX3_countSigns_27 : decode cX3_countSigns 27 = .ok (.iload_n 1, 1) := by decide +kernel
theorem dX3_countSigns_28 : decode cX3_countSigns 28 = .ok (.ireturn, 1) := by decide +kernel
theorem dX3_countOf_0 : decode cX3_countOf 0 = .ok (.iconst 0, 1) := by decide +kernel
theorem dX3_countOf_1 : decode cX3_countOf 1 = .ok (.istore_n 2, 1) := by decide +kernel
theorem dX3_countOf_2 : decode cX3_countOf 2 = .ok (.iconst 0, 1) := by decide +kernel
theorem dX3_countOf_3 : decode cX3_countOf 3 = .ok (.istore_n 3, 1) := by decide +kernel
theorem dX3_countOf_4 : decode cX3_countOf 4 = .ok (.iload_n 3, 1) := by decide +kernel
theorem dX3_countOf_5 : decode cX3_countOf 5 = .ok (.aload_n 0, 1) := by decide +kernel
theorem dX3_countOf_6 : decode cX3_countOf 6 = .ok (.getfield 31, 3) := by decide +kernel
theorem dX3_countOf_9 : decode cX3_countOf 9 = .ok (.if_icmp .ge 43, 3) := by decide +kernel
theorem dX3_countOf_12 : decode cX3_countOf 12 = .ok (.iconst 0, 1) := by decide +kernel
theorem dX3_countOf_13 : decode cX3_countOf 13 = .ok (.istore 4, 2) := by decide +kernel
theorem dX3_countOf_15 : decode cX3_countOf 15 = .ok (.iload 4, 2) := by decide +kernel
theorem dX3_countOf_17 : decode cX3_countOf 17 = .ok (.aload_n 0, 1) := by decide +kernel
theorem dX3_countOf_18 : decode cX3_countOf 18 = .ok (.getfield 28, 3) := by decide +kernel
theorem dX3_countOf_21 : decode cX3_countOf 21 = .ok (.iload_n 3, 1) := by decide +kernel
theorem dX3_countOf_22 : decode cX3_countOf 22 = .ok (.iaload, 1) := by decide +kernel
theorem dX3_countOf_23 : decode cX3_countOf 23 = .ok (.if_icmp .ge 23, 3) := by decide +kernel
theorem dX3_countOf_26 : decode cX3_countOf 26 = .ok (.aload_n 0, 1) := by decide +kernel
theorem dX3_countOf_27 : decode cX3_countOf 27 = .ok (.iload_n 3, 1) := by decide +kernel
theorem dX3_countOf_28 : decode cX3_countOf 28 = .ok (.iload 4, 2) := by decide +kernel
theorem dX3_countOf_30 : decode cX3_countOf 30 = .ok (.invokevirtual 55, 3) := by decide +kernel
theorem dX3_countOf_33 : decode cX3_countOf 33 = .ok (.iload_n 1, 1) := by decide +kernel
theorem dX3_countOf_34 : decode cX3_countOf 34 = .ok (.if_icmp .ne 6, 3) := by decide +kernel
theorem dX3_countOf_37 : decode cX3_countOf 37 = .ok (.iinc 2 1, 3) := by decide +kernel
theorem dX3_countOf_40 : decode cX3_countOf 40 = .ok (.iinc 4 1, 3) := by decide +kernel
theorem dX3_countOf_43 : decode cX3_countOf 43 = .ok (.goto (-28), 3) := by decide +kernel
theorem dX3_countOf_46 : decode cX3_countOf 46 = .ok (.iinc 3 1, 3) := by decide +kernel
theorem dX3_countOf_49 : decode cX3_countOf 49 = .ok (.goto (-45), 3) := by decide +kernel
theorem dX3_countOf_52 : decode cX3_countOf 52 = .ok (.iload_n 2, 1) := by decide +kernel
theorem dX3_countOf_53 : decode cX3_countOf 53 = .ok (.ireturn, 1) := by decide +kernel
theorem dX3_hangAtLeft_0 : decode cX3_hangAtLeft 0 = .ok (.aload_n 0, 1) := by decide +kernel
theorem dX3_hangAtLeft_1 : decode cX3_hangAtLeft 1 = .ok (.getfield 9, 3) := by decide +kernel
theorem dX3_hangAtLeft_4 : decode cX3_hangAtLeft 4 = .ok (.iconst 3, 1) := by decide +kernel
theorem dX3_hangAtLeft_5 : decode cX3_hangAtLeft 5 = .ok (.iaload, 1) := by decide +kernel
theorem dX3_hangAtLeft_6 : decode cX3_hangAtLeft 6 = .ok (.ifCond .ne 7, 3) := by decide +kernel
theorem dX3_hangAtLeft_9 : decode cX3_hangAtLeft 9 = .ok (.iconst 0, 1) := by decide +kernel
theorem dX3_hangAtLeft_10 : decode cX3_hangAtLeft 10 = .ok (.goto 19, 3) := by decide +kernel
theorem dX3_hangAtLeft_13 : decode cX3_hangAtLeft 13 = .ok (.aload_n 0, 1) := by decide +kernel
theorem dX3_hangAtLeft_14 : decode cX3_hangAtLeft 14 = .ok (.getfield 15, 3) := by decide +kernel
theorem dX3_hangAtLeft_17 : decode cX3_hangAtLeft 17 = .ok (.iload_n 1, 1) := by decide +kernel
theorem dX3_hangAtLeft_18 : decode cX3_hangAtLeft 18 = .ok (.iaload, 1) := by decide +kernel
theorem dX3_hangAtLeft_19 : decode cX3_hangAtLeft 19 = .ok (.aload_n 0, 1) := by decide +kernel
theorem dX3_hangAtLeft_20 : decode cX3_hangAtLeft 20 = .ok (.getfield 18, 3) := by decide +kernel
theorem dX3_hangAtLeft_23 : decode cX3_hangAtLeft 23 = .ok (.iload_n 1, 1) := by decide +kernel
theorem dX3_hangAtLeft_24 : decode cX3_hangAtLeft 24 = .ok (.iaload, 1) := by decide +kernel
theorem dX3_hangAtLeft_25 : decode cX3_hangAtLeft 25 = .ok (.imul, 1) := by decide +kernel
theorem dX3_hangAtLeft_26 : decode cX3_hangAtLeft 26 = .ok (.bipush 100, 2) := by decide +kernel
theorem dX3_hangAtLeft_28 : decode cX3_hangAtLeft 28 = .ok (.idiv, 1) := by decide +kernel
theorem dX3_hangAtLeft_29 : decode cX3_hangAtLeft 29 = .ok (.ireturn, 1) := by decide +kernel
theorem dX3_hangAtRight_0 : decode cX3_hangAtRight 0 = .ok (.aload_n 0, 1) := by decide +kernel
theorem dX3_hangAtRight_1 : decode cX3_hangAtRight 1 = .ok (.getfield 9, 3) := by decide +kernel
theorem dX3_hangAtRight_4 : decode cX3_hangAtRight 4 = .ok (.iconst 3, 1) := by decide +kernel
theorem dX3_hangAtRight_5 : decode cX3_hangAtRight 5 = .ok (.iaload, 1) := by decide +kernel
theorem dX3_hangAtRight_6 : decode cX3_hangAtRight 6 = .ok (.ifCond .ne 7, 3) := by decide +kernel
theorem dX3_hangAtRight_9 : decode cX3_hangAtRight 9 = .ok (.iconst 0, 1) := by decide +kernel
theorem dX3_hangAtRight_10 : decode cX3_hangAtRight 10 = .ok (.goto 19, 3) := by decide +kernel
theorem dX3_hangAtRight_13 : decode cX3_hangAtRight 13 = .ok (.aload_n 0, 1) := by decide +kernel
theorem dX3_hangAtRight_14 : decode cX3_hangAtRight 14 = .ok (.getfield 15, 3) := by decide +kernel
theorem dX3_hangAtRight_17 : decode cX3_hangAtRight 17 = .ok (.iload_n 1, 1) := by decide +kernel
theorem dX3_hangAtRight_18 : decode cX3_hangAtRight 18 = .ok (.iaload, 1) := by decide +kernel
theorem dX3_hangAtRight_19 : decode cX3_hangAtRight 19 = .ok (.aload_n 0, 1) := by decide +kernel
theorem dX3_hangAtRight_20 : decode cX3_hangAtRight 20 = .ok (.getfield 21, 3) := by decide +kernel
theorem dX3_hangAtRight_23 : decode cX3_hangAtRight 23 = .ok (.iload_n 1, 1) := by decide +kernel
theorem dX3_hangAtRight_24 : decode cX3_hangAtRight 24 = .ok (.iaload, 1) := by decide +kernel
theorem dX3_hangAtRight_25 : decode cX3_hangAtRight 25 = .ok (.imul, 1) := by decide +kernel
theorem dX3_hangAtRight_26 : decode cX3_hangAtRight 26 = .ok (.bipush 100, 2) := by decide +kernel
theorem dX3_hangAtRight_28 : decode cX3_hangAtRight 28 = .ok (.idiv, 1) := by decide +kernel
theorem dX3_hangAtRight_29 : decode cX3_hangAtRight 29 = .ok (.ireturn, 1) := by decide +kernel
theorem dX3_leftHangOf_0 : decode cX3_leftHangOf 0 = .ok (.aload_n 0, 1) := by decide +kernel
theorem dX3_leftHangOf_1 : decode cX3_leftHangOf 1 = .ok (.aload_n 0, 1) := by decide +kernel
theorem dX3_leftHangOf_2 : decode cX3_leftHangOf 2 = .ok (.iload_n 1, 1) := by decide +kernel
theorem dX3_leftHangOf_3 : decode cX3_leftHangOf 3 = .ok (.iconst 0, 1) := by decide +kernel
theorem dX3_leftHangOf_4 : decode cX3_leftHangOf 4 = .ok (.invokevirtual 55, 3) := by decide +kernel
theorem dX3_leftHangOf_7 : decode cX3_leftHangOf 7 = .ok (.invokevirtual 58, 3) := by decide +kernel
theorem dX3_leftHangOf_10 : decode cX3_leftHangOf 10 = .ok (.ireturn, 1) := by decide +kernel
theorem dX3_rightHangOf_0 : decode cX3_rightHangOf 0 = .ok (.aload_n 0, 1) := by decide +kernel
theorem dX3_rightHangOf_1 : decode cX3_rightHangOf 1 = .ok (.aload_n 0, 1) := by decide +kernel
theorem dX3_rightHangOf_2 : decode cX3_rightHangOf 2 = .ok (.iload_n 1, 1) := by decide +kernel
theorem dX3_rightHangOf_3 : decode cX3_rightHangOf 3 = .ok (.aload_n 0, 1) := by decide +kernel
theorem dX3_rightHangOf_4 : decode cX3_rightHangOf 4 = .ok (.getfield 28, 3) := by decide +kernel
theorem dX3_rightHangOf_7 : decode cX3_rightHangOf 7 = .ok (.iload_n 1, 1) := by decide +kernel
theorem dX3_rightHangOf_8 : decode cX3_rightHangOf 8 = .ok (.iaload, 1) := by decide +kernel
theorem dX3_rightHangOf_9 : decode cX3_rightHangOf 9 = .ok (.iconst 1, 1) := by decide +kernel
theorem dX3_rightHangOf_10 : decode cX3_rightHangOf 10 = .ok (.isub, 1) := by decide +kernel
theorem dX3_rightHangOf_11 : decode cX3_rightHangOf 11 = .ok (.iconst 0, 1) := by decide +kernel
theorem dX3_rightHangOf_12 : decode cX3_rightHangOf 12 = .ok (.invokestatic 49, 3) := by decide +kernel
theorem dX3_rightHangOf_15 : decode cX3_rightHangOf 15 = .ok (.invokevirtual 55, 3) := by decide +kernel
theorem dX3_rightHangOf_18 : decode cX3_rightHangOf 18 = .ok (.invokevirtual 61, 3) := by decide +kernel
theorem dX3_rightHangOf_21 : decode cX3_rightHangOf 21 = .ok (.ireturn, 1) := by decide +kernel
theorem dX4_init_0 : decode cX4_init 0 = .ok (.aload_n 0, 1) := by decide +kernel
theorem dX4_init_1 : decode cX4_init 1 = .ok (.invokespecial 1, 3) := by decide +kernel
theorem dX4_init_4 : decode cX4_init 4 = .ok (.aload_n 0, 1) := by decide +kernel
theorem dX4_init_5 : decode cX4_init 5 = .ok (.new 7, 3) := by decide +kernel
theorem dX4_init_8 : decode cX4_init 8 = .ok (.dup, 1) := by decide +kernel
theorem dX4_init_9 : decode cX4_init 9 = .ok (.invokespecial 9, 3) := by decide +kernel
theorem dX4_init_12 : decode cX4_init 12 = .ok (.putfield 10, 3) := by decide +kernel
theorem dX4_init_15 : decode cX4_init 15 = .ok (.aload_n 0, 1) := by decide +kernel
theorem dX4_init_16 : decode cX4_init 16 = .ok (.new 7, 3) := by decide +kernel
theorem dX4_init_19 : decode cX4_init 19 = .ok (.dup, 1) := by decide +kernel
theorem dX4_init_20 : decode cX4_init 20 = .ok (.invokespecial 9, 3) := by decide +kernel
theorem dX4_init_23 : decode cX4_init 23 = .ok (.putfield 16, 3) := by decide +kernel
theorem dX4_init_26 : decode cX4_init 26 = .ok (.aload_n 0, 1) := by decide +kernel
theorem dX4_init_27 : decode cX4_init 27 = .ok (.new 19, 3) := by decide +kernel
theorem dX4_init_30 : decode cX4_init 30 = .ok (.dup, 1) := by decide +kernel
theorem dX4_init_31 : decode cX4_init 31 = .ok (.invokespecial 21, 3) := by decide +kernel
theorem dX4_init_34 : decode cX4_init 34 = .ok (.putfield 22, 3) := by decide +kernel
theorem dX4_init_37 : decode cX4_init 37 = .ok (.aload_n 0, 1) := by decide +kernel
theorem dX4_init_38 : decode cX4_init 38 = .ok (.new 19, 3) := by decide +kernel
theorem dX4_init_41 : decode cX4_init 41 = .ok (.dup, 1) := by decide +kernel
theorem dX4_init_42 : decode cX4_init 42 = .ok (.invokespecial 21, 3) := by decide +kernel
theorem dX4_init_45 : decode cX4_init 45 = .ok (.putfield 26, 3) := by decide +kernel
theorem dX4_init_48 : decode cX4_init 48 = .ok (.aload_n 0, 1) := by decide +kernel
theorem dX4_init_49 : decode cX4_init 49 = .ok (.new 29, 3) := by decide +kernel
theorem dX4_init_52 : decode cX4_init 52 = .ok (.dup, 1) := by decide +kernel
theorem dX4_init_53 : decode cX4_init 53 = .ok (.invokespecial 31, 3) := by decide +kernel
theorem dX4_init_56 : decode cX4_init 56 = .ok (.putfield 32, 3) := by decide +kernel
theorem dX4_init_59 : decode cX4_init 59 = .ok (.aload_n 0, 1) := by decide +kernel
theorem dX4_init_60 : decode cX4_init 60 = .ok (.new 36, 3) := by decide +kernel
theorem dX4_init_63 : decode cX4_init 63 = .ok (.dup, 1) := by decide +kernel
theorem dX4_init_64 : decode cX4_init 64 = .ok (.invokespecial 38, 3) := by decide +kernel
theorem dX4_init_67 : decode cX4_init 67 = .ok (.putfield 39, 3) := by decide +kernel
theorem dX4_init_70 : decode cX4_init 70 = .ok (.aload_n 0, 1) := by decide +kernel
theorem dX4_init_71 : decode cX4_init 71 = .ok (.iconst 2, 1) := by decide +kernel
theorem dX4_init_72 : decode cX4_init 72 = .ok (.anewarray 7, 3) := by decide +kernel
theorem dX4_init_75 : decode cX4_init 75 = .ok (.dup, 1) := by decide +kernel
theorem dX4_init_76 : decode cX4_init 76 = .ok (.iconst 0, 1) := by decide +kernel
theorem dX4_init_77 : decode cX4_init 77 = .ok (.new 7, 3) := by decide +kernel
theorem dX4_init_80 : decode cX4_init 80 = .ok (.dup, 1) := by decide +kernel
theorem dX4_init_81 : decode cX4_init 81 = .ok (.invokespecial 9, 3) := by decide +kernel
theorem dX4_init_84 : decode cX4_init 84 = .ok (.aastore, 1) := by decide +kernel
theorem dX4_init_85 : decode cX4_init 85 = .ok (.dup, 1) := by decide +kernel
theorem dX4_init_86 : decode cX4_init 86 = .ok (.iconst 1, 1) := by decide +kernel
theorem dX4_init_87 : decode cX4_init 87 = .ok (.new 7, 3) := by decide +kernel
theorem dX4_init_90 : decode cX4_init 90 = .ok (.dup, 1) := by decide +kernel
theorem dX4_init_91 : decode cX4_init 91 = .ok (.invokespecial 9, 3) := by decide +kernel
theorem dX4_init_94 : decode cX4_init 94 = .ok (.aastore, 1) := by decide +kernel
theorem dX4_init_95 : decode cX4_init 95 = .ok (.putfield 43, 3) := by decide +kernel
theorem dX4_init_98 : decode cX4_init 98 = .ok (.aload_n 0, 1) := by decide +kernel
theorem dX4_init_99 : decode cX4_init 99 = .ok (.iconst 2, 1) := by decide +kernel
theorem dX4_init_100 : decode cX4_init 100 = .ok (.newarray .boolean, 2) := by decide +kernel
theorem dX4_init_102 : decode cX4_init 102 = .ok (.putfield 47, 3) := by decide +kernel
theorem dX4_init_105 : decode cX4_init 105 = .ok (.return_, 1) := by decide +kernel
theorem dX4_set_0 : decode cX4_set 0 = .ok (.iload_n 1, 1) := by decide +kernel
theorem dX4_set_1 : decode cX4_set 1 = .ok (.ifCond .lt 8, 3) := by decide +kernel
theorem dX4_set_4 : decode cX4_set 4 = .ok (.iload_n 1, 1) := by decide +kernel
theorem dX4_set_5 : decode cX4_set 5 = .ok (.iconst 4, 1) := by decide +kernel
theorem dX4_set_6 : decode cX4_set 6 = .ok (.if_icmp .lt 7, 3) := by decide +kernel
theorem dX4_set_9 : decode cX4_set 9 = .ok (.sipush (-1002), 3) := by decide +kernel
theorem dX4_set_12 : decode cX4_set 12 = .ok (.ireturn, 1) := by decide +kernel
theorem dX4_set_13 : decode cX4_set 13 = .ok (.iload_n 2, 1) := by decide +kernel
theorem dX4_set_14 : decode cX4_set 14 = .ok (.getstatic 51, 3) := by decide +kernel
theorem dX4_set_17 : decode cX4_set 17 = .ok (.iload_n 1, 1) := by decide +kernel
theorem dX4_set_18 : decode cX4_set 18 = .ok (.iaload, 1) := by decide +kernel
theorem dX4_set_19 : decode cX4_set 19 = .ok (.if_icmp .lt 12, 3) := by decide +kernel
theorem dX4_set_22 : decode cX4_set 22 = .ok (.iload_n 2, 1) := by decide +kernel
theorem dX4_set_23 : decode cX4_set 23 = .ok (.getstatic 55, 3) := by decide +kernel
theorem dX4_set_26 : decode cX4_set 26 = .ok (.iload_n 1, 1) := by decide +kernel
theorem dX4_set_27 : decode cX4_set 27 = .ok (.iaload, 1) := by decide +kernel
theorem dX4_set_28 : decode cX4_set 28 = .ok (.if_icmp .le 7, 3) := by decide +kernel
theorem dX4_set_31 : decode cX4_set 31 = .ok (.sipush (-1002), 3) := by decide +kernel
theorem dX4_set_34 : decode cX4_set 34 = .ok (.ireturn, 1) := by decide +kernel
theorem dX4_set_35 : decode cX4_set 35 = .ok (.aload_n 0, 1) := by decide +kernel
theorem dX4_set_36 : decode cX4_set 36 = .ok (.getfield 39, 3) := by decide +kernel
theorem dX4_set_39 : decode cX4_set 39 = .ok (.aload_n 0, 1) := by decide +kernel
theorem dX4_set_40 : decode cX4_set 40 = .ok (.getfield 10, 3) := by decide +kernel
theorem dX4_set_43 : decode cX4_set 43 = .ok (.invokevirtual 58, 3) := by decide +kernel
theorem dX4_set_46 : decode cX4_set 46 = .ok (.aload_n 0, 1) := by decide +kernel
theorem dX4_set_47 : decode cX4_set 47 = .ok (.getfield 10, 3) := by decide +kernel
theorem dX4_set_50 : decode cX4_set 50 = .ok (.getfield 62, 3) := by decide +kernel
theorem dX4_set_53 : decode cX4_set 53 = .ok (.iload_n 1, 1) := by decide +kernel
theorem dX4_set_54 : decode cX4_set 54 = .ok (.iaload, 1) := by decide +kernel
theorem dX4_set_55 : decode cX4_set 55 = .ok (.istore_n 3, 1) := by decide +kernel
theorem dX4_set_56 : decode cX4_set 56 = .ok (.aload_n 0, 1) := by decide +kernel
theorem dX4_set_57 : decode cX4_set 57 = .ok (.getfield 10, 3) := by decide +kernel
theorem dX4_set_60 : decode cX4_set 60 = .ok (.getfield 62, 3) := by decide +kernel
theorem dX4_set_63 : decode cX4_set 63 = .ok (.iload_n 1, 1) := by decide +kernel
theorem dX4_set_64 : decode cX4_set 64 = .ok (.iload_n 2, 1) := by decide +kernel
theorem dX4_set_65 : decode cX4_set 65 = .ok (.iastore, 1) := by decide +kernel
theorem dX4_set_66 : decode cX4_set 66 = .ok (.iload_n 3, 1) := by decide +kernel
theorem dX4_set_67 : decode cX4_set 67 = .ok (.ireturn, 1) := by decide +kernel
theorem dX4_sort_0 : decode cX4_sort 0 = .ok (.iload_n 1, 1) := by decide +kernel
theorem dX4_sort_1 : decode cX4_sort 1 = .ok (.invokestatic 65, 3) := by decide +kernel
theorem dX4_sort_4 : decode cX4_sort 4 = .ok (.ifCond .ne 7, 3) := by decide +kernel
theorem dX4_sort_7 : decode cX4_sort 7 = .ok (.sipush (-1001), 3) := by decide +kernel
theorem dX4_sort_10 : decode cX4_sort 10 = .ok (.ireturn, 1) := by decide +kernel
theorem dX4_sort_11 : decode cX4_sort 11 = .ok (.iload_n 2, 1) := by decide +kernel
theorem dX4_sort_12 : decode cX4_sort 12 = .ok (.iconst 1, 1) := by decide +kernel
theorem dX4_sort_13 : decode cX4_sort 13 = .ok (.if_icmp .lt 24, 3) := by decide +kernel
theorem dX4_sort_16 : decode cX4_sort 16 = .ok (.iload_n 2, 1) := by decide +kernel
theorem dX4_sort_17 : decode cX4_sort 17 = .ok (.bipush 20, 2) := by decide +kernel
theorem dX4_sort_19 : decode cX4_sort 19 = .ok (.if_icmp .gt 18, 3) := by decide +kernel
theorem dX4_sort_22 : decode cX4_sort 22 = .ok (.iload_n 3, 1) := by decide +kernel
theorem dX4_sort_23 : decode cX4_sort 23 = .ok (.invokestatic 69, 3) := by decide +kernel
theorem dX4_sort_26 : decode cX4_sort 26 = .ok (.ifCond .eq 11, 3) := by decide +kernel
theorem dX4_sort_29 : decode cX4_sort 29 = .ok (.iload 4, 2) := by decide +kernel
theorem dX4_sort_31 : decode cX4_sort 31 = .ok (.invokestatic 69, 3) := by decide +kernel
theorem dX4_sort_34 : decode cX4_sort 34 = .ok (.ifCond .ne 7, 3) := by decide +kernel
theorem dX4_sort_37 : decode cX4_sort 37 = .ok (.sipush (-1002), 3) := by decide +kernel
theorem dX4_sort_40 : decode cX4_sort 40 = .ok (.ireturn, 1) := by decide +kernel
theorem dX4_sort_41 : decode cX4_sort 41 = .ok (.aload_n 0, 1) := by decide +kernel
theorem dX4_sort_42 : decode cX4_sort 42 = .ok (.getfield 39, 3) := by decide +kernel
theorem dX4_sort_45 : decode cX4_sort 45 = .ok (.aload_n 0, 1) := by decide +kernel
theorem dX4_sort_46 : decode cX4_sort 46 = .ok (.getfield 10, 3) := by decide +kernel
theorem dX4_sort_49 : decode cX4_sort 49 = .ok (.invokevirtual 58, 3) := by decide +kernel
theorem dX4_sort_52 : decode cX4_sort 52 = .ok (.aload_n 0, 1) := by decide +kernel
theorem dX4_sort_53 : decode cX4_sort 53 = .ok (.getfield 10, 3) := by decide +kernel
theorem dX4_sort_56 : decode cX4_sort 56 = .ok (.getfield 72, 3) := by decide +kernel
theorem dX4_sort_59 : decode cX4_sort 59 = .ok (.iload_n 1, 1) := by decide +kernel
theorem dX4_sort_60 : decode cX4_sort 60 = .ok (.iaload, 1) := by decide +kernel
theorem dX4_sort_61 : decode cX4_sort 61 = .ok (.istore 5, 2) := by decide +kernel
theorem dX4_sort_63 : decode cX4_sort 63 = .ok (.aload_n 0, 1) := by decide +kernel
theorem dX4_sort_64 : decode cX4_sort 64 = .ok (.getfield 10, 3) := by decide +kernel
theorem dX4_sort_67 : decode cX4_sort 67 = .ok (.getfield 72, 3) := by decide +kernel
theorem dX4_sort_70 : decode cX4_sort 70 = .ok (.iload_n 1, 1) := by decide +kernel
theorem dX4_sort_71 : decode cX4_sort 71 = .ok (.iload_n 2, 1) := by decide +kernel
theorem dX4_sort_72 : decode cX4_sort 72 = .ok (.iastore, 1) := by decide +kernel
theorem dX4_sort_73 : decode cX4_sort 73 = .ok (.aload_n 0, 1) := by decide +kernel
theorem dX4_sort_74 : decode cX4_sort 74 = .ok (.getfield 10, 3) := by decide +kernel
theorem dX4_sort_77 : decode cX4_sort 77 = .ok (.getfield 75, 3) := by decide +kernel
theorem dX4_sort_80 : decode cX4_sort 80 = .ok (.iload_n 1, 1) := by decide +kernel
theorem dX4_sort_81 : decode cX4_sort 81 = .ok (.iload_n 3, 1) := by decide +kernel
theorem dX4_sort_82 : decode cX4_sort 82 = .ok (.iastore, 1) := by decide +kernel
theorem dX4_sort_83 : decode cX4_sort 83 = .ok (.aload_n 0, 1) := by decide +kernel
theorem dX4_sort_84 : decode cX4_sort 84 = .ok (.getfield 10, 3) := by decide +kernel
theorem dX4_sort_87 : decode cX4_sort 87 = .ok (.getfield 78, 3) := by decide +kernel
theorem dX4_sort_90 : decode cX4_sort 90 = .ok (.iload_n 1, 1) := by decide +kernel
theorem dX4_sort_91 : decode cX4_sort 91 = .ok (.iload 4, 2) := by decide +kernel
theorem dX4_sort_93 : decode cX4_sort 93 = .ok (.iastore, 1) := by decide +kernel
theorem dX4_sort_94 : decode cX4_sort 94 = .ok (.iload 5, 2) := by decide +kernel
theorem dX4_sort_96 : decode cX4_sort 96 = .ok (.ireturn, 1) := by decide +kernel
theorem dX4_read_0 : decode cX4_read 0 = .ok (.aload_n 0, 1) := by decide +kernel
theorem dX4_read_1 : decode cX4_read 1 = .ok (.getfield 32, 3) := by decide +kernel
theorem dX4_read_4 : decode cX4_read 4 = .ok (.invokevirtual 81, 3) := by decide +kernel
theorem dX4_read_7 : decode cX4_read 7 = .ok (.sipush (-1006), 3) := by decide +kernel
theorem dX4_read_10 : decode cX4_read 10 = .ok (.if_icmp .eq 7, 3) := by decide +kernel
theorem dX4_read_13 : decode cX4_read 13 = .ok (.sipush (-1003), 3) := by decide +kernel
theorem dX4_read_16 : decode cX4_read 16 = .ok (.ireturn, 1) := by decide +kernel
theorem dX4_read_17 : decode cX4_read 17 = .ok (.aload_n 0, 1) := by decide +kernel
theorem dX4_read_18 : decode cX4_read 18 = .ok (.getfield 10, 3) := by decide +kernel
theorem dX4_read_21 : decode cX4_read 21 = .ok (.getfield 85, 3) := by decide +kernel
theorem dX4_read_24 : decode cX4_read 24 = .ok (.aload_n 0, 1) := by decide +kernel
theorem dX4_read_25 : decode cX4_read 25 = .ok (.getfield 32, 3) := by decide +kernel
theorem dX4_read_28 : decode cX4_read 28 = .ok (.invokevirtual 89, 3) := by decide +kernel
theorem dX4_read_31 : decode cX4_read 31 = .ok (.iadd, 1) := by decide +kernel
theorem dX4_read_32 : decode cX4_read 32 = .ok (.bipush 24, 2) := by decide +kernel
theorem dX4_read_34 : decode cX4_read 34 = .ok (.if_icmp .le 7, 3) := by decide +kernel
theorem dX4_read_37 : decode cX4_read 37 = .ok (.sipush (-1004), 3) := by decide +kernel
theorem dX4_read_40 : decode cX4_read 40 = .ok (.ireturn, 1) := by decide +kernel
theorem dX4_read_41 : decode cX4_read 41 = .ok (.aload_n 0, 1) := by decide +kernel
theorem dX4_read_42 : decode cX4_read 42 = .ok (.getfield 39, 3) := by decide +kernel
theorem dX4_read_45 : decode cX4_read 45 = .ok (.aload_n 0, 1) := by decide +kernel
theorem dX4_read_46 : decode cX4_read 46 = .ok (.getfield 10, 3) := by decide +kernel
theorem dX4_read_49 : decode cX4_read 49 = .ok (.invokevirtual 58, 3) := by decide +kernel
theorem dX4_read_52 : decode cX4_read 52 = .ok (.aload_n 0, 1) := by decide +kernel
theorem dX4_read_53 : decode cX4_read 53 = .ok (.getfield 32, 3) := by decide +kernel
theorem dX4_read_56 : decode cX4_read 56 = .ok (.aload_n 0, 1) := by decide +kernel
theorem dX4_read_57 : decode cX4_read 57 = .ok (.getfield 10, 3) := by decide +kernel
theorem dX4_read_60 : decode cX4_read 60 = .ok (.invokevirtual 92, 3) := by decide +kernel
theorem dX4_read_63 : decode cX4_read 63 = .ok (.aload_n 0, 1) := by decide +kernel
theorem dX4_read_64 : decode cX4_read 64 = .ok (.getfield 32, 3) := by decide +kernel
theorem dX4_read_67 : decode cX4_read 67 = .ok (.iconst 0, 1) := by decide +kernel
theorem dX4_read_68 : decode cX4_read 68 = .ok (.putfield 95, 3) := by decide +kernel
theorem dX4_read_71 : decode cX4_read 71 = .ok (.aload_n 0, 1) := by decide +kernel
theorem dX4_read_72 : decode cX4_read 72 = .ok (.getfield 10, 3) := by decide +kernel
theorem dX4_read_75 : decode cX4_read 75 = .ok (.getfield 85, 3) := by decide +kernel
theorem dX4_read_78 : decode cX4_read 78 = .ok (.ireturn, 1) := by decide +kernel
theorem dX4_drop_0 : decode cX4_drop 0 = .ok (.aload_n 0, 1) := by decide +kernel
theorem dX4_drop_1 : decode cX4_drop 1 = .ok (.iload_n 1, 1) := by decide +kernel
theorem dX4_drop_2 : decode cX4_drop 2 = .ok (.invokevirtual 98, 3) := by decide +kernel
theorem dX4_drop_5 : decode cX4_drop 5 = .ok (.ifCond .ne 7, 3) := by decide +kernel
theorem dX4_drop_8 : decode cX4_drop 8 = .ok (.sipush (-1001), 3) := by decide +kernel
theorem dX4_drop_11 : decode cX4_drop 11 = .ok (.ireturn, 1) := by decide +kernel
theorem dX4_drop_12 : decode cX4_drop 12 = .ok (.aload_n 0, 1) := by decide +kernel
theorem dX4_drop_13 : decode cX4_drop 13 = .ok (.getfield 39, 3) := by decide +kernel
theorem dX4_drop_16 : decode cX4_drop 16 = .ok (.aload_n 0, 1) := by decide +kernel
theorem dX4_drop_17 : decode cX4_drop 17 = .ok (.getfield 10, 3) := by decide +kernel
theorem dX4_drop_20 : decode cX4_drop 20 = .ok (.invokevirtual 58, 3) := by decide +kernel
theorem dX4_drop_23 : decode cX4_drop 23 = .ok (.aload_n 0, 1) := by decide +kernel
theorem dX4_drop_24 : decode cX4_drop 24 = .ok (.getfield 10, 3) := by decide +kernel
theorem dX4_drop_27 : decode cX4_drop 27 = .ok (.iload_n 1, 1) := by decide +kernel
theorem dX4_drop_28 : decode cX4_drop 28 = .ok (.invokevirtual 101, 3) := by decide +kernel
theorem dX4_drop_31 : decode cX4_drop 31 = .ok (.istore_n 2, 1) := by decide +kernel
theorem dX4_drop_32 : decode cX4_drop 32 = .ok (.aload_n 0, 1) := by decide +kernel
theorem dX4_drop_33 : decode cX4_drop 33 = .ok (.getfield 10, 3) := by decide +kernel
theorem dX4_drop_36 : decode cX4_drop 36 = .ok (.iload_n 1, 1) := by decide +kernel
theorem dX4_drop_37 : decode cX4_drop 37 = .ok (.invokevirtual 105, 3) := by decide +kernel
theorem dX4_drop_40 : decode cX4_drop 40 = .ok (.iload_n 2, 1) := by decide +kernel
theorem dX4_drop_41 : decode cX4_drop 41 = .ok (.ireturn, 1) := by decide +kernel
theorem dX4_swap_0 : decode cX4_swap 0 = .ok (.aload_n 0, 1) := by decide +kernel
theorem dX4_swap_1 : decode cX4_swap 1 = .ok (.iload_n 1, 1) := by decide +kernel
theorem dX4_swap_2 : decode cX4_swap 2 = .ok (.invokevirtual 98, 3) := by decide +kernel
theorem dX4_swap_5 : decode cX4_swap 5 = .ok (.ifCond .eq 11, 3) := by decide +kernel
theorem dX4_swap_8 : decode cX4_swap 8 = .ok (.aload_n 0, 1) := by decide +kernel
theorem dX4_swap_9 : decode cX4_swap 9 = .ok (.iload_n 2, 1) := by decide +kernel
theorem dX4_swap_10 : decode cX4_swap 10 = .ok (.invokevirtual 98, 3) := by decide +kernel
theorem dX4_swap_13 : decode cX4_swap 13 = .ok (.ifCond .ne 7, 3) := by decide +kernel
theorem dX4_swap_16 : decode cX4_swap 16 = .ok (.sipush (-1001), 3) := by decide +kernel
theorem dX4_swap_19 : decode cX4_swap 19 = .ok (.ireturn, 1) := by decide +kernel
theorem dX4_swap_20 : decode cX4_swap 20 = .ok (.iload_n 1, 1) := by decide +kernel
theorem dX4_swap_21 : decode cX4_swap 21 = .ok (.iload_n 2, 1) := by decide +kernel
theorem dX4_swap_22 : decode cX4_swap 22 = .ok (.if_icmp .ne 7, 3) := by decide +kernel
theorem dX4_swap_25 : decode cX4_swap 25 = .ok (.sipush (-1002), 3) := by decide +kernel
theorem dX4_swap_28 : decode cX4_swap 28 = .ok (.ireturn, 1) := by decide +kernel
theorem dX4_swap_29 : decode cX4_swap 29 = .ok (.aload_n 0, 1) := by decide +kernel
theorem dX4_swap_30 : decode cX4_swap 30 = .ok (.getfield 39, 3) := by decide +kernel
theorem dX4_swap_33 : decode cX4_swap 33 = .ok (.aload_n 0, 1) := by decide +kernel
theorem dX4_swap_34 : decode cX4_swap 34 = .ok (.getfield 10, 3) := by decide +kernel
theorem dX4_swap_37 : decode cX4_swap 37 = .ok (.invokevirtual 58, 3) := by decide +kernel
theorem dX4_swap_40 : decode cX4_swap 40 = .ok (.aload_n 0, 1) := by decide +kernel
theorem dX4_swap_41 : decode cX4_swap 41 = .ok (.getfield 10, 3) := by decide +kernel
theorem dX4_swap_44 : decode cX4_swap 44 = .ok (.iload_n 1, 1) := by decide +kernel
theorem dX4_swap_45 : decode cX4_swap 45 = .ok (.iload_n 2, 1) := by decide +kernel
theorem dX4_swap_46 : decode cX4_swap 46 = .ok (.invokevirtual 109, 3) := by decide +kernel
theorem dX4_swap_49 : decode cX4_swap 49 = .ok (.aload_n 0, 1) := by decide +kernel
theorem dX4_swap_50 : decode cX4_swap 50 = .ok (.iconst 0, 1) := by decide +kernel
theorem dX4_swap_51 : decode cX4_swap 51 = .ok (.invokevirtual 113, 3) := by decide +kernel
theorem dX4_swap_54 : decode cX4_swap 54 = .ok (.getfield 117, 3) := by decide +kernel
theorem dX4_swap_57 : decode cX4_swap 57 = .ok (.ireturn, 1) := by decide +kernel
theorem dX4_clear_0 : decode cX4_clear 0 = .ok (.aload_n 0, 1) := by decide +kernel
theorem dX4_clear_1 : decode cX4_clear 1 = .ok (.getfield 39, 3) := by decide +kernel
theorem dX4_clear_4 : decode cX4_clear 4 = .ok (.aload_n 0, 1) := by decide +kernel
theorem dX4_clear_5 : decode cX4_clear 5 = .ok (.getfield 10, 3) := by decide +kernel
theorem dX4_clear_8 : decode cX4_clear 8 = .ok (.invokevirtual 58, 3) := by decide +kernel
theorem dX4_clear_11 : decode cX4_clear 11 = .ok (.aload_n 0, 1) := by decide +kernel
theorem dX4_clear_12 : decode cX4_clear 12 = .ok (.getfield 10, 3) := by decide +kernel
theorem dX4_clear_15 : decode cX4_clear 15 = .ok (.getfield 85, 3) := by decide +kernel
theorem dX4_clear_18 : decode cX4_clear 18 = .ok (.istore_n 1, 1) := by decide +kernel
theorem dX4_clear_19 : decode cX4_clear 19 = .ok (.aload_n 0, 1) := by decide +kernel
theorem dX4_clear_20 : decode cX4_clear 20 = .ok (.getfield 10, 3) := by decide +kernel
theorem dX4_clear_23 : decode cX4_clear 23 = .ok (.iconst 0, 1) := by decide +kernel
theorem dX4_clear_24 : decode cX4_clear 24 = .ok (.putfield 85, 3) := by decide +kernel
theorem dX4_clear_27 : decode cX4_clear 27 = .ok (.iload_n 1, 1) := by decide +kernel
theorem dX4_clear_28 : decode cX4_clear 28 = .ok (.ireturn, 1) := by decide +kernel
theorem dX4_sortOf_0 : decode cX4_sortOf 0 = .ok (.iload_n 1, 1) := by decide +kernel
theorem dX4_sortOf_1 : decode cX4_sortOf 1 = .ok (.invokestatic 65, 3) := by decide +kernel
theorem dX4_sortOf_4 : decode cX4_sortOf 4 = .ok (.ifCond .ne 7, 3) := by decide +kernel
theorem dX4_sortOf_7 : decode cX4_sortOf 7 = .ok (.sipush (-1001), 3) := by decide +kernel
theorem dX4_sortOf_10 : decode cX4_sortOf 10 = .ok (.ireturn, 1) := by decide +kernel
theorem dX4_sortOf_11 : decode cX4_sortOf 11 = .ok (.iload_n 2, 1) := by decide +kernel
theorem dX4_sortOf_12 : decode cX4_sortOf 12 = .ok (.tableswitch 97 0 5 #[40, 50, 60, 70, 79, 88], 40) := by decide +kernel
theorem dX4_sortOf_52 : decode cX4_sortOf 52 = .ok (.aload_n 0, 1) := by decide +kernel
theorem dX4_sortOf_53 : decode cX4_sortOf 53 = .ok (.getfield 10, 3) := by decide +kernel
theorem dX4_sortOf_56 : decode cX4_sortOf 56 = .ok (.getfield 72, 3) := by decide +kernel
theorem dX4_sortOf_59 : decode cX4_sortOf 59 = .ok (.iload_n 1, 1) := by decide +kernel
theorem dX4_sortOf_60 : decode cX4_sortOf 60 = .ok (.iaload, 1) := by decide +kernel
theorem dX4_sortOf_61 : decode cX4_sortOf 61 = .ok (.ireturn, 1) := by decide +kernel
theorem dX4_sortOf_62 : decode cX4_sortOf 62 = .ok (.aload_n 0, 1) := by decide +kernel
theorem dX4_sortOf_63 : decode cX4_sortOf 63 = .ok (.getfield 10, 3) := by decide +kernel
theorem dX4_sortOf_66 : decode cX4_sortOf 66 = .ok (.getfield 75, 3) := by decide +kernel
theorem dX4_sortOf_69 : decode cX4_sortOf 69 = .ok (.iload_n 1, 1) := by decide +kernel
theorem dX4_sortOf_70 : decode cX4_sortOf 70 = .ok (.iaload, 1) := by decide +kernel
theorem dX4_sortOf_71 : decode cX4_sortOf 71 = .ok (.ireturn, 1) := by decide +kernel
theorem dX4_sortOf_72 : decode cX4_sortOf 72 = .ok (.aload_n 0, 1) := by decide +kernel
theorem dX4_sortOf_73 : decode cX4_sortOf 73 = .ok (.getfield 10, 3) := by decide +kernel
theorem dX4_sortOf_76 : decode cX4_sortOf 76 = .ok (.getfield 78, 3) := by decide +kernel
theorem dX4_sortOf_79 : decode cX4_sortOf 79 = .ok (.iload_n 1, 1) := by decide +kernel
theorem dX4_sortOf_80 : decode cX4_sortOf 80 = .ok (.iaload, 1) := by decide +kernel
theorem dX4_sortOf_81 : decode cX4_sortOf 81 = .ok (.ireturn, 1) := by decide +kernel
theorem dX4_sortOf_82 : decode cX4_sortOf 82 = .ok (.aload_n 0, 1) := by decide +kernel
theorem dX4_sortOf_83 : decode cX4_sortOf 83 = .ok (.getfield 10, 3) := by decide +kernel
theorem dX4_sortOf_86 : decode cX4_sortOf 86 = .ok (.iload_n 1, 1) := by decide +kernel
theorem dX4_sortOf_87 : decode cX4_sortOf 87 = .ok (.invokevirtual 120, 3) := by decide +kernel
theorem dX4_sortOf_90 : decode cX4_sortOf 90 = .ok (.ireturn, 1) := by decide +kernel
theorem dX4_sortOf_91 : decode cX4_sortOf 91 = .ok (.aload_n 0, 1) := by decide +kernel
theorem dX4_sortOf_92 : decode cX4_sortOf 92 = .ok (.getfield 10, 3) := by decide +kernel
theorem dX4_sortOf_95 : decode cX4_sortOf 95 = .ok (.iload_n 1, 1) := by decide +kernel
theorem dX4_sortOf_96 : decode cX4_sortOf 96 = .ok (.invokevirtual 123, 3) := by decide +kernel
theorem dX4_sortOf_99 : decode cX4_sortOf 99 = .ok (.ireturn, 1) := by decide +kernel
theorem dX4_sortOf_100 : decode cX4_sortOf 100 = .ok (.aload_n 0, 1) := by decide +kernel
theorem dX4_sortOf_101 : decode cX4_sortOf 101 = .ok (.getfield 10, 3) := by decide +kernel
theorem dX4_sortOf_104 : decode cX4_sortOf 104 = .ok (.iload_n 1, 1) := by decide +kernel
theorem dX4_sortOf_105 : decode cX4_sortOf 105 = .ok (.invokevirtual 126, 3) := by decide +kernel
theorem dX4_sortOf_108 : decode cX4_sortOf 108 = .ok (.ireturn, 1) := by decide +kernel
theorem dX4_sortOf_109 : decode cX4_sortOf 109 = .ok (.sipush (-1002), 3) := by decide +kernel
theorem dX4_sortOf_112 : decode cX4_sortOf 112 = .ok (.ireturn, 1) := by decide +kernel
theorem dX4_word_0 : decode cX4_word 0 = .ok (.aload_n 0, 1) := by decide +kernel
theorem dX4_word_1 : decode cX4_word 1 = .ok (.iload_n 1, 1) := by decide +kernel
theorem dX4_word_2 : decode cX4_word 2 = .ok (.invokevirtual 98, 3) := by decide +kernel
theorem dX4_word_5 : decode cX4_word 5 = .ok (.ifCond .ne 7, 3) := by decide +kernel
theorem dX4_word_8 : decode cX4_word 8 = .ok (.sipush (-1001), 3) := by decide +kernel
theorem dX4_word_11 : decode cX4_word 11 = .ok (.ireturn, 1) := by decide +kernel
theorem dX4_word_12 : decode cX4_word 12 = .ok (.iload_n 2, 1) := by decide +kernel
theorem dX4_word_13 : decode cX4_word 13 = .ok (.ifCond .ge 7, 3) := by decide +kernel
theorem dX4_word_16 : decode cX4_word 16 = .ok (.sipush (-1002), 3) := by decide +kernel
theorem dX4_word_19 : decode cX4_word 19 = .ok (.ireturn, 1) := by decide +kernel
theorem dX4_word_20 : decode cX4_word 20 = .ok (.iload_n 2, 1) := by decide +kernel
theorem dX4_word_21 : decode cX4_word 21 = .ok (.tableswitch 70 0 3 #[31, 41, 50, 60], 31) := by decide +kernel
theorem dX4_word_52 : decode cX4_word 52 = .ok (.aload_n 0, 1) := by decide +kernel
theorem dX4_word_53 : decode cX4_word 53 = .ok (.getfield 10, 3) := by decide +kernel
theorem dX4_word_56 : decode cX4_word 56 = .ok (.getfield 129, 3) := by decide +kernel
theorem dX4_word_59 : decode cX4_word 59 = .ok (.iload_n 1, 1) := by decide +kernel
theorem dX4_word_60 : decode cX4_word 60 = .ok (.iaload, 1) := by decide +kernel
theorem dX4_word_61 : decode cX4_word 61 = .ok (.ireturn, 1) := by decide +kernel
theorem dX4_word_62 : decode cX4_word 62 = .ok (.aload_n 0, 1) := by decide +kernel
theorem dX4_word_63 : decode cX4_word 63 = .ok (.getfield 10, 3) := by decide +kernel
theorem dX4_word_66 : decode cX4_word 66 = .ok (.iload_n 1, 1) := by decide +kernel
theorem dX4_word_67 : decode cX4_word 67 = .ok (.invokevirtual 101, 3) := by decide +kernel
theorem dX4_word_70 : decode cX4_word 70 = .ok (.ireturn, 1) := by decide +kernel
theorem dX4_word_71 : decode cX4_word 71 = .ok (.aload_n 0, 1) := by decide +kernel
theorem dX4_word_72 : decode cX4_word 72 = .ok (.iconst 0, 1) := by decide +kernel
theorem dX4_word_73 : decode cX4_word 73 = .ok (.invokevirtual 113, 3) := by decide +kernel
theorem dX4_word_76 : decode cX4_word 76 = .ok (.iload_n 1, 1) := by decide +kernel
theorem dX4_word_77 : decode cX4_word 77 = .ok (.invokevirtual 132, 3) := by decide +kernel
theorem dX4_word_80 : decode cX4_word 80 = .ok (.ireturn, 1) := by decide +kernel
theorem dX4_word_81 : decode cX4_word 81 = .ok (.aload_n 0, 1) := by decide +kernel
theorem dX4_word_82 : decode cX4_word 82 = .ok (.iconst 1, 1) := by decide +kernel
theorem dX4_word_83 : decode cX4_word 83 = .ok (.invokevirtual 113, 3) := by decide +kernel
theorem dX4_word_86 : decode cX4_word 86 = .ok (.iload_n 1, 1) := by decide +kernel
theorem dX4_word_87 : decode cX4_word 87 = .ok (.invokevirtual 132, 3) := by decide +kernel
theorem dX4_word_90 : decode cX4_word 90 = .ok (.ireturn, 1) := by decide +kernel
theorem dX4_word_91 : decode cX4_word 91 = .ok (.iload_n 2, 1) := by decide +kernel
theorem dX4_word_92 : decode cX4_word 92 = .ok (.iconst 4, 1) := by decide +kernel
theorem dX4_word_93 : decode cX4_word 93 = .ok (.isub, 1) := by decide +kernel
theorem dX4_word_94 : decode cX4_word 94 = .ok (.aload_n 0, 1) := by decide +kernel
theorem dX4_word_95 : decode cX4_word 95 = .ok (.getfield 10, 3) := by decide +kernel
theorem dX4_word_98 : decode cX4_word 98 = .ok (.getfield 129, 3) := by decide +kernel
theorem dX4_word_101 : decode cX4_word 101 = .ok (.iload_n 1, 1) := by decide +kernel
theorem dX4_word_102 : decode cX4_word 102 = .ok (.iaload, 1) := by decide +kernel
theorem dX4_word_103 : decode cX4_word 103 = .ok (.if_icmp .ge 17, 3) := by decide +kernel
theorem dX4_word_106 : decode cX4_word 106 = .ok (.aload_n 0, 1) := by decide +kernel
theorem dX4_word_107 : decode cX4_word 107 = .ok (.getfield 10, 3) := by decide +kernel
theorem dX4_word_110 : decode cX4_word 110 = .ok (.iload_n 1, 1) := by decide +kernel
theorem dX4_word_111 : decode cX4_word 111 = .ok (.iload_n 2, 1) := by decide +kernel
theorem dX4_word_112 : decode cX4_word 112 = .ok (.iconst 4, 1) := by decide +kernel
theorem dX4_word_113 : decode cX4_word 113 = .ok (.isub, 1) := by decide +kernel
theorem dX4_word_114 : decode cX4_word 114 = .ok (.invokevirtual 135, 3) := by decide +kernel
theorem dX4_word_117 : decode cX4_word 117 = .ok (.goto 6, 3) := by decide +kernel
theorem dX4_word_120 : decode cX4_word 120 = .ok (.sipush (-1006), 3) := by decide +kernel
theorem dX4_word_123 : decode cX4_word 123 = .ok (.ireturn, 1) := by decide +kernel
theorem dX4_line_0 : decode cX4_line 0 = .ok (.iload_n 1, 1) := by decide +kernel
theorem dX4_line_1 : decode cX4_line 1 = .ok (.invokestatic 139, 3) := by decide +kernel
theorem dX4_line_4 : decode cX4_line 4 = .ok (.ifCond .eq 13, 3) := by decide +kernel
theorem dX4_line_7 : decode cX4_line 7 = .ok (.iload_n 3, 1) := by decide +kernel
theorem dX4_line_8 : decode cX4_line 8 = .ok (.ifCond .lt 9, 3) := by decide +kernel
theorem dX4_line_11 : decode cX4_line 11 = .ok (.iload_n 3, 1) := by decide +kernel
theorem dX4_line_12 : decode cX4_line 12 = .ok (.bipush 8, 2) := by decide +kernel
theorem dX4_line_14 : decode cX4_line 14 = .ok (.if_icmp .le 7, 3) := by decide +kernel
theorem dX4_line_17 : decode cX4_line 17 = .ok (.sipush (-1002), 3) := by decide +kernel
theorem dX4_line_20 : decode cX4_line 20 = .ok (.ireturn, 1) := by decide +kernel
theorem dX4_line_21 : decode cX4_line 21 = .ok (.aload_n 0, 1) := by decide +kernel
theorem dX4_line_22 : decode cX4_line 22 = .ok (.iload_n 1, 1) := by decide +kernel
theorem dX4_line_23 : decode cX4_line 23 = .ok (.invokevirtual 113, 3) := by decide +kernel
theorem dX4_line_26 : decode cX4_line 26 = .ok (.astore 4, 2) := by decide +kernel
theorem dX4_line_28 : decode cX4_line 28 = .ok (.iload_n 2, 1) := by decide +kernel
theorem dX4_line_29 : decode cX4_line 29 = .ok (.ifCond .lt 12, 3) := by decide +kernel
theorem dX4_line_32 : decode cX4_line 32 = .ok (.iload_n 2, 1) := by decide +kernel
theorem dX4_line_33 : decode cX4_line 33 = .ok (.aload 4, 2) := by decide +kernel
theorem dX4_line_35 : decode cX4_line 35 = .ok (.getfield 117, 3) := by decide +kernel
theorem dX4_line_38 : decode cX4_line 38 = .ok (.if_icmp .lt 7, 3) := by decide +kernel
theorem dX4_line_41 : decode cX4_line 41 = .ok (.sipush (-1001), 3) := by decide +kernel
theorem dX4_line_44 : decode cX4_line 44 = .ok (.ireturn, 1) := by decide +kernel
theorem dX4_line_45 : decode cX4_line 45 = .ok (.aload 4, 2) := by decide +kernel
theorem dX4_line_47 : decode cX4_line 47 = .ok (.iload_n 2, 1) := by decide +kernel
theorem dX4_line_48 : decode cX4_line 48 = .ok (.iload_n 3, 1) := by decide +kernel
theorem dX4_line_49 : decode cX4_line 49 = .ok (.invokevirtual 142, 3) := by decide +kernel
theorem dX4_line_52 : decode cX4_line 52 = .ok (.ireturn, 1) := by decide +kernel
theorem dX4_lines_0 : decode cX4_lines 0 = .ok (.iload_n 1, 1) := by decide +kernel
theorem dX4_lines_1 : decode cX4_lines 1 = .ok (.invokestatic 139, 3) := by decide +kernel
theorem dX4_lines_4 : decode cX4_lines 4 = .ok (.ifCond .ne 7, 3) := by decide +kernel
theorem dX4_lines_7 : decode cX4_lines 7 = .ok (.sipush (-1002), 3) := by decide +kernel
theorem dX4_lines_10 : decode cX4_lines 10 = .ok (.ireturn, 1) := by decide +kernel
theorem dX4_lines_11 : decode cX4_lines 11 = .ok (.iload_n 2, 1) := by decide +kernel
theorem dX4_lines_12 : decode cX4_lines 12 = .ok (.tableswitch 81 0 4 #[36, 45, 54, 63, 72], 36) := by decide +kernel
theorem dX4_lines_48 : decode cX4_lines 48 = .ok (.aload_n 0, 1) := by decide +kernel
theorem dX4_lines_49 : decode cX4_lines 49 = .ok (.iload_n 1, 1) := by decide +kernel
theorem dX4_lines_50 : decode cX4_lines 50 = .ok (.invokevirtual 113, 3) := by decide +kernel
theorem dX4_lines_53 : decode cX4_lines 53 = .ok (.getfield 117, 3) := by decide +kernel
theorem dX4_lines_56 : decode cX4_lines 56 = .ok (.ireturn, 1) := by decide +kernel
theorem dX4_lines_57 : decode cX4_lines 57 = .ok (.aload_n 0, 1) := by decide +kernel
theorem dX4_lines_58 : decode cX4_lines 58 = .ok (.iload_n 1, 1) := by decide +kernel
theorem dX4_lines_59 : decode cX4_lines 59 = .ok (.invokevirtual 113, 3) := by decide +kernel
theorem dX4_lines_62 : decode cX4_lines 62 = .ok (.invokevirtual 146, 3) := by decide +kernel
theorem dX4_lines_65 : decode cX4_lines 65 = .ok (.ireturn, 1) := by decide +kernel
theorem dX4_lines_66 : decode cX4_lines 66 = .ok (.aload_n 0, 1) := by decide +kernel
theorem dX4_lines_67 : decode cX4_lines 67 = .ok (.iload_n 1, 1) := by decide +kernel
theorem dX4_lines_68 : decode cX4_lines 68 = .ok (.invokevirtual 113, 3) := by decide +kernel
theorem dX4_lines_71 : decode cX4_lines 71 = .ok (.invokevirtual 149, 3) := by decide +kernel
theorem dX4_lines_74 : decode cX4_lines 74 = .ok (.ireturn, 1) := by decide +kernel
theorem dX4_lines_75 : decode cX4_lines 75 = .ok (.aload_n 0, 1) := by decide +kernel
theorem dX4_lines_76 : decode cX4_lines 76 = .ok (.iload_n 1, 1) := by decide +kernel
theorem dX4_lines_77 : decode cX4_lines 77 = .ok (.invokevirtual 113, 3) := by decide +kernel
theorem dX4_lines_80 : decode cX4_lines 80 = .ok (.invokevirtual 152, 3) := by decide +kernel
theorem dX4_lines_83 : decode cX4_lines 83 = .ok (.ireturn, 1) := by decide +kernel
theorem dX4_lines_84 : decode cX4_lines 84 = .ok (.aload_n 0, 1) := by decide +kernel
theorem dX4_lines_85 : decode cX4_lines 85 = .ok (.iload_n 1, 1) := by decide +kernel
theorem dX4_lines_86 : decode cX4_lines 86 = .ok (.invokevirtual 113, 3) := by decide +kernel
theorem dX4_lines_89 : decode cX4_lines 89 = .ok (.invokevirtual 155, 3) := by decide +kernel
theorem dX4_lines_92 : decode cX4_lines 92 = .ok (.ireturn, 1) := by decide +kernel
theorem dX4_lines_93 : decode cX4_lines 93 = .ok (.sipush (-1002), 3) := by decide +kernel
theorem dX4_lines_96 : decode cX4_lines 96 = .ok (.ireturn, 1) := by decide +kernel
theorem dX4_count_0 : decode cX4_count 0 = .ok (.iload_n 1, 1) := by decide +kernel
theorem dX4_count_1 : decode cX4_count 1 = .ok (.ifCond .lt 18, 3) := by decide +kernel
theorem dX4_count_4 : decode cX4_count 4 = .ok (.iload_n 1, 1) := by decide +kernel
theorem dX4_count_5 : decode cX4_count 5 = .ok (.iconst 4, 1) := by decide +kernel
theorem dX4_count_6 : decode cX4_count 6 = .ok (.if_icmp .ge 13, 3) := by decide +kernel
theorem dX4_count_9 : decode cX4_count 9 = .ok (.aload_n 0, 1) := by decide +kernel
theorem dX4_count_10 : decode cX4_count 10 = .ok (.getfield 10, 3) := by decide +kernel
theorem dX4_count_13 : decode cX4_count 13 = .ok (.getfield 62, 3) := by decide +kernel
theorem dX4_count_16 : decode cX4_count 16 = .ok (.iload_n 1, 1) := by decide +kernel
theorem dX4_count_17 : decode cX4_count 17 = .ok (.iaload, 1) := by decide +kernel
theorem dX4_count_18 : decode cX4_count 18 = .ok (.ireturn, 1) := by decide +kernel
theorem dX4_count_19 : decode cX4_count 19 = .ok (.iload_n 1, 1) := by decide +kernel
theorem dX4_count_20 : decode cX4_count 20 = .ok (.tableswitch 111 4 9 #[40, 48, 56, 73, 95, 103], 40) := by decide +kernel
theorem dX4_count_60 : decode cX4_count 60 = .ok (.aload_n 0, 1) := by decide +kernel
theorem dX4_count_61 : decode cX4_count 61 = .ok (.getfield 10, 3) := by decide +kernel
theorem dX4_count_64 : decode cX4_count 64 = .ok (.getfield 85, 3) := by decide +kernel
theorem dX4_count_67 : decode cX4_count 67 = .ok (.ireturn, 1) := by decide +kernel
theorem dX4_count_68 : decode cX4_count 68 = .ok (.aload_n 0, 1) := by decide +kernel
theorem dX4_count_69 : decode cX4_count 69 = .ok (.getfield 10, 3) := by decide +kernel
theorem dX4_count_72 : decode cX4_count 72 = .ok (.invokevirtual 158, 3) := by decide +kernel
theorem dX4_count_75 : decode cX4_count 75 = .ok (.ireturn, 1) := by decide +kernel
theorem dX4_count_76 : decode cX4_count 76 = .ok (.aload_n 0, 1) := by decide +kernel
theorem dX4_count_77 : decode cX4_count 77 = .ok (.getfield 10, 3) := by decide +kernel
theorem dX4_count_80 : decode cX4_count 80 = .ok (.invokevirtual 158, 3) := by decide +kernel
theorem dX4_count_83 : decode cX4_count 83 = .ok (.aload_n 0, 1) := by decide +kernel
theorem dX4_count_84 : decode cX4_count 84 = .ok (.getfield 10, 3) := by decide +kernel
theorem dX4_count_87 : decode cX4_count 87 = .ok (.iconst 0, 1) := by decide +kernel
theorem dX4_count_88 : decode cX4_count 88 = .ok (.invokevirtual 126, 3) := by decide +kernel
theorem dX4_count_91 : decode cX4_count 91 = .ok (.isub, 1) := by decide +kernel
theorem dX4_count_92 : decode cX4_count 92 = .ok (.ireturn, 1) := by decide +kernel
theorem dX4_count_93 : decode cX4_count 93 = .ok (.aload_n 0, 1) := by decide +kernel
theorem dX4_count_94 : decode cX4_count 94 = .ok (.iconst 0, 1) := by decide +kernel
theorem dX4_count_95 : decode cX4_count 95 = .ok (.invokevirtual 113, 3) := by decide +kernel
theorem dX4_count_98 : decode cX4_count 98 = .ok (.aload_n 0, 1) := by decide +kernel
theorem dX4_count_99 : decode cX4_count 99 = .ok (.iconst 1, 1) := by decide +kernel
theorem dX4_count_100 : decode cX4_count 100 = .ok (.invokevirtual 113, 3) := by decide +kernel
theorem dX4_count_103 : decode cX4_count 103 = .ok (.invokevirtual 161, 3) := by decide +kernel
theorem dX4_count_106 : decode cX4_count 106 = .ok (.ifCond .eq 7, 3) := by decide +kernel
theorem dX4_count_109 : decode cX4_count 109 = .ok (.iconst 1, 1) := by decide +kernel
theorem dX4_count_110 : decode cX4_count 110 = .ok (.goto 4, 3) := by decide +kernel
theorem dX4_count_113 : decode cX4_count 113 = .ok (.iconst 0, 1) := by decide +kernel
theorem dX4_count_114 : decode cX4_count 114 = .ok (.ireturn, 1) := by decide +kernel
theorem dX4_count_115 : decode cX4_count 115 = .ok (.aload_n 0, 1) := by decide +kernel
theorem dX4_count_116 : decode cX4_count 116 = .ok (.getfield 32, 3) := by decide +kernel
theorem dX4_count_119 : decode cX4_count 119 = .ok (.getfield 95, 3) := by decide +kernel
theorem dX4_count_122 : decode cX4_count 122 = .ok (.ireturn, 1) := by decide +kernel
theorem dX4_count_123 : decode cX4_count 123 = .ok (.aload_n 0, 1) := by decide +kernel
theorem dX4_count_124 : decode cX4_count 124 = .ok (.getfield 39, 3) := by decide +kernel
theorem dX4_count_127 : decode cX4_count 127 = .ok (.getfield 165, 3) := by decide +kernel
theorem dX4_count_130 : decode cX4_count 130 = .ok (.ireturn, 1) := by decide +kernel
theorem dX4_count_131 : decode cX4_count 131 = .ok (.sipush (-1002), 3) := by decide +kernel
theorem dX4_count_134 : decode cX4_count 134 = .ok (.ireturn, 1) := by decide +kernel
theorem dX4_body_0 : decode cX4_body 0 = .ok (.aload_n 0, 1) := by decide +kernel
theorem dX4_body_1 : decode cX4_body 1 = .ok (.iload_n 1, 1) := by decide +kernel
theorem dX4_body_2 : decode cX4_body 2 = .ok (.invokevirtual 98, 3) := by decide +kernel
theorem dX4_body_5 : decode cX4_body 5 = .ok (.ifCond .eq 16, 3) := by decide +kernel
theorem dX4_body_8 : decode cX4_body 8 = .ok (.aload_n 0, 1) := by decide +kernel
theorem dX4_body_9 : decode cX4_body 9 = .ok (.iload_n 2, 1) := by decide +kernel
theorem dX4_body_10 : decode cX4_body 10 = .ok (.invokevirtual 98, 3) := by decide +kernel
theorem dX4_body_13 : decode cX4_body 13 = .ok (.ifCond .eq 8, 3) := by decide +kernel
theorem dX4_body_16 : decode cX4_body 16 = .ok (.iload_n 2, 1) := by decide +kernel
theorem dX4_body_17 : decode cX4_body 17 = .ok (.iload_n 1, 1) := by decide +kernel
theorem dX4_body_18 : decode cX4_body 18 = .ok (.if_icmp .ge 7, 3) := by decide +kernel
theorem dX4_body_21 : decode cX4_body 21 = .ok (.sipush (-1001), 3) := by decide +kernel
theorem dX4_body_24 : decode cX4_body 24 = .ok (.ireturn, 1) := by decide +kernel
theorem dX4_body_25 : decode cX4_body 25 = .ok (.aload_n 0, 1) := by decide +kernel
theorem dX4_body_26 : decode cX4_body 26 = .ok (.getfield 22, 3) := by decide +kernel
theorem dX4_body_29 : decode cX4_body 29 = .ok (.aload_n 0, 1) := by decide +kernel
theorem dX4_body_30 : decode cX4_body 30 = .ok (.getfield 10, 3) := by decide +kernel
theorem dX4_body_33 : decode cX4_body 33 = .ok (.invokevirtual 168, 3) := by decide +kernel
theorem dX4_body_36 : decode cX4_body 36 = .ok (.aload_n 0, 1) := by decide +kernel
theorem dX4_body_37 : decode cX4_body 37 = .ok (.getfield 22, 3) := by decide +kernel
theorem dX4_body_40 : decode cX4_body 40 = .ok (.iload_n 1, 1) := by decide +kernel
theorem dX4_body_41 : decode cX4_body 41 = .ok (.iload_n 2, 1) := by decide +kernel
theorem dX4_body_42 : decode cX4_body 42 = .ok (.invokevirtual 171, 3) := by decide +kernel
theorem dX4_body_45 : decode cX4_body 45 = .ok (.ireturn, 1) := by decide +kernel
theorem dX4_leastMeasure_0 : decode cX4_leastMeasure 0 = .ok (.iload_n 1, 1) := by decide +kernel
theorem dX4_leastMeasure_1 : decode cX4_leastMeasure 1 = .ok (.iconst 1, 1) := by decide +kernel
theorem dX4_leastMeasure_2 : decode cX4_leastMeasure 2 = .ok (.if_icmp .lt 9, 3) := by decide +kernel
theorem dX4_leastMeasure_5 : decode cX4_leastMeasure 5 = .ok (.iload_n 1, 1) := by decide +kernel
theorem dX4_leastMeasure_6 : decode cX4_leastMeasure 6 = .ok (.bipush 24, 2) := by decide +kernel
theorem dX4_leastMeasure_8 : decode cX4_leastMeasure 8 = .ok (.if_icmp .le 7, 3) := by decide +kernel
theorem dX4_leastMeasure_11 : decode cX4_leastMeasure 11 = .ok (.sipush (-1002), 3) := by decide +kernel
theorem dX4_leastMeasure_14 : decode cX4_leastMeasure 14 = .ok (.ireturn, 1) := by decide +kernel
theorem dX4_leastMeasure_15 : decode cX4_leastMeasure 15 = .ok (.aload_n 0, 1) := by decide +kernel
theorem dX4_leastMeasure_16 : decode cX4_leastMeasure 16 = .ok (.getfield 22, 3) := by decide +kernel
theorem dX4_leastMeasure_19 : decode cX4_leastMeasure 19 = .ok (.aload_n 0, 1) := by decide +kernel
theorem dX4_leastMeasure_20 : decode cX4_leastMeasure 20 = .ok (.getfield 10, 3) := by decide +kernel
theorem dX4_leastMeasure_23 : decode cX4_leastMeasure 23 = .ok (.invokevirtual 168, 3) := by decide +kernel
theorem dX4_leastMeasure_26 : decode cX4_leastMeasure 26 = .ok (.getstatic 51, 3) := by decide +kernel
theorem dX4_leastMeasure_29 : decode cX4_leastMeasure 29 = .ok (.iconst 0, 1) := by decide +kernel
theorem dX4_leastMeasure_30 : decode cX4_leastMeasure 30 = .ok (.iaload, 1) := by decide +kernel
theorem dX4_leastMeasure_31 : decode cX4_leastMeasure 31 = .ok (.istore_n 2, 1) := by decide +kernel
theorem dX4_leastMeasure_32 : decode cX4_leastMeasure 32 = .ok (.iload_n 2, 1) := by decide +kernel
theorem dX4_leastMeasure_33 : decode cX4_leastMeasure 33 = .ok (.getstatic 55, 3) := by decide +kernel
theorem dX4_leastMeasure_36 : decode cX4_leastMeasure 36 = .ok (.iconst 0, 1) := by decide +kernel
theorem dX4_leastMeasure_37 : decode cX4_leastMeasure 37 = .ok (.iaload, 1) := by decide +kernel
theorem dX4_leastMeasure_38 : decode cX4_leastMeasure 38 = .ok (.if_icmp .gt 37, 3) := by decide +kernel
theorem dX4_leastMeasure_41 : decode cX4_leastMeasure 41 = .ok (.aload_n 0, 1) := by decide +kernel
theorem dX4_leastMeasure_42 : decode cX4_leastMeasure 42 = .ok (.getfield 22, 3) := by decide +kernel
theorem dX4_leastMeasure_45 : decode cX4_leastMeasure 45 = .ok (.iload_n 2, 1) := by decide +kernel
theorem dX4_leastMeasure_46 : decode cX4_leastMeasure 46 = .ok (.putfield 174, 3) := by decide +kernel
theorem dX4_leastMeasure_49 : decode cX4_leastMeasure 49 = .ok (.aload_n 0, 1) := by decide +kernel
theorem dX4_leastMeasure_50 : decode cX4_leastMeasure 50 = .ok (.getfield 22, 3) := by decide +kernel
theorem dX4_leastMeasure_53 : decode cX4_leastMeasure 53 = .ok (.invokevirtual 177, 3) := by decide +kernel
theorem dX4_leastMeasure_56 : decode cX4_leastMeasure 56 = .ok (.aload_n 0, 1) := by decide +kernel
theorem dX4_leastMeasure_57 : decode cX4_leastMeasure 57 = .ok (.getfield 22, 3) := by decide +kernel
theorem dX4_leastMeasure_60 : decode cX4_leastMeasure 60 = .ok (.getfield 117, 3) := by decide +kernel
theorem dX4_leastMeasure_63 : decode cX4_leastMeasure 63 = .ok (.iload_n 1, 1) := by decide +kernel
theorem dX4_leastMeasure_64 : decode cX4_leastMeasure 64 = .ok (.if_icmp .gt 5, 3) := by decide +kernel
theorem dX4_leastMeasure_67 : decode cX4_leastMeasure 67 = .ok (.iload_n 2, 1) := by decide +kernel
theorem dX4_leastMeasure_68 : decode cX4_leastMeasure 68 = .ok (.ireturn, 1) := by decide +kernel
theorem dX4_leastMeasure_69 : decode cX4_leastMeasure 69 = .ok (.iinc 2 1, 3) := by decide +kernel
theorem dX4_leastMeasure_72 : decode cX4_leastMeasure 72 = .ok (.goto (-40), 3) := by decide +kernel
theorem dX4_leastMeasure_75 : decode cX4_leastMeasure 75 = .ok (.sipush (-1006), 3) := by decide +kernel
theorem dX4_leastMeasure_78 : decode cX4_leastMeasure 78 = .ok (.ireturn, 1) := by decide +kernel
theorem dX4_bestShare_0 : decode cX4_bestShare 0 = .ok (.iload_n 1, 1) := by decide +kernel
theorem dX4_bestShare_1 : decode cX4_bestShare 1 = .ok (.invokestatic 65, 3) := by decide +kernel
theorem dX4_bestShare_4 : decode cX4_bestShare 4 = .ok (.ifCond .ne 7, 3) := by decide +kernel
theorem dX4_bestShare_7 : decode cX4_bestShare 7 = .ok (.sipush (-1001), 3) := by decide +kernel
theorem dX4_bestShare_10 : decode cX4_bestShare 10 = .ok (.ireturn, 1) := by decide +kernel
theorem dX4_bestShare_11 : decode cX4_bestShare 11 = .ok (.aload_n 0, 1) := by decide +kernel
theorem dX4_bestShare_12 : decode cX4_bestShare 12 = .ok (.getfield 16, 3) := by decide +kernel
theorem dX4_bestShare_15 : decode cX4_bestShare 15 = .ok (.aload_n 0, 1) := by decide +kernel
theorem dX4_bestShare_16 : decode cX4_bestShare 16 = .ok (.getfield 10, 3) := by decide +kernel
theorem dX4_bestShare_19 : decode cX4_bestShare 19 = .ok (.invokevirtual 180, 3) := by decide +kernel
theorem dX4_bestShare_22 : decode cX4_bestShare 22 = .ok (.iconst 0, 1) := by decide +kernel
theorem dX4_bestShare_23 : decode cX4_bestShare 23 = .ok (.istore_n 2, 1) := by decide +kernel
theorem dX4_bestShare_24 : decode cX4_bestShare 24 = .ok (.iconst 0, 1) := by decide +kernel
theorem dX4_bestShare_25 : decode cX4_bestShare 25 = .ok (.istore_n 3, 1) := by decide +kernel
theorem dX4_bestShare_26 : decode cX4_bestShare 26 = .ok (.iconst (-1), 1) := by decide +kernel
theorem dX4_bestShare_27 : decode cX4_bestShare 27 = .ok (.istore 4, 2) := by decide +kernel
theorem dX4_bestShare_29 : decode cX4_bestShare 29 = .ok (.iconst 0, 1) := by decide +kernel
theorem dX4_bestShare_30 : decode cX4_bestShare 30 = .ok (.istore 5, 2) := by decide +kernel
theorem dX4_bestShare_32 : decode cX4_bestShare 32 = .ok (.iload 5, 2) := by decide +kernel
theorem dX4_bestShare_34 : decode cX4_bestShare 34 = .ok (.bipush 100, 2) := by decide +kernel
theorem dX4_bestShare_36 : decode cX4_bestShare 36 = .ok (.if_icmp .gt 71, 3) := by decide +kernel
theorem dX4_bestShare_39 : decode cX4_bestShare 39 = .ok (.aload_n 0, 1) := by decide +kernel
theorem dX4_bestShare_40 : decode cX4_bestShare 40 = .ok (.getfield 16, 3) := by decide +kernel
theorem dX4_bestShare_43 : decode cX4_bestShare 43 = .ok (.getfield 78, 3) := by decide +kernel
theorem dX4_bestShare_46 : decode cX4_bestShare 46 = .ok (.iload_n 1, 1) := by decide +kernel
theorem dX4_bestShare_47 : decode cX4_bestShare 47 = .ok (.iload 5, 2) := by decide +kernel
theorem dX4_bestShare_49 : decode cX4_bestShare 49 = .ok (.iastore, 1) := by decide +kernel
theorem dX4_bestShare_50 : decode cX4_bestShare 50 = .ok (.aload_n 0, 1) := by decide +kernel
theorem dX4_bestShare_51 : decode cX4_bestShare 51 = .ok (.getfield 16, 3) := by decide +kernel
theorem dX4_bestShare_54 : decode cX4_bestShare 54 = .ok (.iload_n 1, 1) := by decide +kernel
theorem dX4_bestShare_55 : decode cX4_bestShare 55 = .ok (.invokevirtual 123, 3) := by decide +kernel
theorem dX4_bestShare_58 : decode cX4_bestShare 58 = .ok (.istore 6, 2) := by decide +kernel
theorem dX4_bestShare_60 : decode cX4_bestShare 60 = .ok (.iload 6, 2) := by decide +kernel
theorem dX4_bestShare_62 : decode cX4_bestShare 62 = .ok (.iload 4, 2) := by decide +kernel
theorem dX4_bestShare_64 : decode cX4_bestShare 64 = .ok (.if_icmp .ne 6, 3) := by decide +kernel
theorem dX4_bestShare_67 : decode cX4_bestShare 67 = .ok (.goto 34, 3) := by decide +kernel
theorem dX4_bestShare_70 : decode cX4_bestShare 70 = .ok (.iload 6, 2) := by decide +kernel
theorem dX4_bestShare_72 : decode cX4_bestShare 72 = .ok (.istore 4, 2) := by decide +kernel
theorem dX4_bestShare_74 : decode cX4_bestShare 74 = .ok (.aload_n 0, 1) := by decide +kernel
theorem dX4_bestShare_75 : decode cX4_bestShare 75 = .ok (.aload_n 0, 1) := by decide +kernel
theorem dX4_bestShare_76 : decode cX4_bestShare 76 = .ok (.getfield 16, 3) := by decide +kernel
theorem dX4_bestShare_79 : decode cX4_bestShare 79 = .ok (.invokevirtual 183, 3) := by decide +kernel
theorem dX4_bestShare_82 : decode cX4_bestShare 82 = .ok (.istore 7, 2) := by decide +kernel
theorem dX4_bestShare_84 : decode cX4_bestShare 84 = .ok (.iload 5, 2) := by decide +kernel
theorem dX4_bestShare_86 : decode cX4_bestShare 86 = .ok (.ifCond .eq 9, 3) := by decide +kernel
theorem dX4_bestShare_89 : decode cX4_bestShare 89 = .ok (.iload 7, 2) := by decide +kernel
theorem dX4_bestShare_91 : decode cX4_bestShare 91 = .ok (.iload_n 3, 1) := by decide +kernel
theorem dX4_bestShare_92 : decode cX4_bestShare 92 = .ok (.if_icmp .ge 9, 3) := by decide +kernel
theorem dX4_bestShare_95 : decode cX4_bestShare 95 = .ok (.iload 5, 2) := by decide +kernel
theorem dX4_bestShare_97 : decode cX4_bestShare 97 = .ok (.istore_n 2, 1) := by decide +kernel
theorem dX4_bestShare_98 : decode cX4_bestShare 98 = .ok (.iload 7, 2) := by decide +kernel
theorem dX4_bestShare_100 : decode cX4_bestShare 100 = .ok (.istore_n 3, 1) := by decide +kernel
theorem dX4_bestShare_101 : decode cX4_bestShare 101 = .ok (.iinc 5 1, 3) := by decide +kernel
theorem dX4_bestShare_104 : decode cX4_bestShare 104 = .ok (.goto (-72), 3) := by decide +kernel
theorem dX4_bestShare_107 : decode cX4_bestShare 107 = .ok (.iload_n 2, 1) := by decide +kernel
theorem dX4_bestShare_108 : decode cX4_bestShare 108 = .ok (.ireturn, 1) := by decide +kernel
theorem dX4_worstWord_0 : decode cX4_worstWord 0 = .ok (.sipush (-1006), 3) := by decide +kernel
theorem dX4_worstWord_3 : decode cX4_worstWord 3 = .ok (.istore_n 1, 1) := by decide +kernel
theorem dX4_worstWord_4 : decode cX4_worstWord 4 = .ok (.iconst 0, 1) := by decide +kernel
theorem dX4_worstWord_5 : decode cX4_worstWord 5 = .ok (.istore_n 2, 1) := by decide +kernel
theorem dX4_worstWord_6 : decode cX4_worstWord 6 = .ok (.iconst 0, 1) := by decide +kernel
theorem dX4_worstWord_7 : decode cX4_worstWord 7 = .ok (.istore_n 3, 1) := by decide +kernel
theorem dX4_worstWord_8 : decode cX4_worstWord 8 = .ok (.iload_n 3, 1) := by decide +kernel
theorem dX4_worstWord_9 : decode cX4_worstWord 9 = .ok (.aload_n 0, 1) := by decide +kernel
theorem dX4_worstWord_10 : decode cX4_worstWord 10 = .ok (.getfield 10, 3) := by decide +kernel
theorem dX4_worstWord_13 : decode cX4_worstWord 13 = .ok (.getfield 85, 3) := by decide +kernel
theorem dX4_worstWord_16 : decode cX4_worstWord 16 = .ok (.if_icmp .ge 56, 3) := by decide +kernel
theorem dX4_worstWord_19 : decode cX4_worstWord 19 = .ok (.aload_n 0, 1) := by decide +kernel
theorem dX4_worstWord_20 : decode cX4_worstWord 20 = .ok (.getfield 16, 3) := by decide +kernel
theorem dX4_worstWord_23 : decode cX4_worstWord 23 = .ok (.aload_n 0, 1) := by decide +kernel
theorem dX4_worstWord_24 : decode cX4_worstWord 24 = .ok (.getfield 10, 3) := by decide +kernel
theorem dX4_worstWord_27 : decode cX4_worstWord 27 = .ok (.invokevirtual 180, 3) := by decide +kernel
theorem dX4_worstWord_30 : decode cX4_worstWord 30 = .ok (.aload_n 0, 1) := by decide +kernel
theorem dX4_worstWord_31 : decode cX4_worstWord 31 = .ok (.getfield 16, 3) := by decide +kernel
theorem dX4_worstWord_34 : decode cX4_worstWord 34 = .ok (.iload_n 3, 1) := by decide +kernel
theorem dX4_worstWord_35 : decode cX4_worstWord 35 = .ok (.invokevirtual 105, 3) := by decide +kernel
theorem dX4_worstWord_38 : decode cX4_worstWord 38 = .ok (.aload_n 0, 1) := by decide +kernel
theorem dX4_worstWord_39 : decode cX4_worstWord 39 = .ok (.aload_n 0, 1) := by decide +kernel
theorem dX4_worstWord_40 : decode cX4_worstWord 40 = .ok (.getfield 16, 3) := by decide +kernel
theorem dX4_worstWord_43 : decode cX4_worstWord 43 = .ok (.invokevirtual 183, 3) := by decide +kernel
theorem dX4_worstWord_46 : decode cX4_worstWord 46 = .ok (.istore 4, 2) := by decide +kernel
theorem dX4_worstWord_48 : decode cX4_worstWord 48 = .ok (.iload_n 1, 1) := by decide +kernel
theorem dX4_worstWord_49 : decode cX4_worstWord 49 = .ok (.sipush (-1006), 3) := by decide +kernel
theorem dX4_worstWord_52 : decode cX4_worstWord 52 = .ok (.if_icmp .eq 9, 3) := by decide +kernel
theorem dX4_worstWord_55 : decode cX4_worstWord 55 = .ok (.iload 4, 2) := by decide +kernel
theorem dX4_worstWord_57 : decode cX4_worstWord 57 = .ok (.iload_n 2, 1) := by decide +kernel
theorem dX4_worstWord_58 : decode cX4_worstWord 58 = .ok (.if_icmp .ge 8, 3) := by decide +kernel
theorem dX4_worstWord_61 : decode cX4_worstWord 61 = .ok (.iload_n 3, 1) := by decide +kernel
theorem dX4_worstWord_62 : decode cX4_worstWord 62 = .ok (.istore_n 1, 1) := by decide +kernel
theorem dX4_worstWord_63 : decode cX4_worstWord 63 = .ok (.iload 4, 2) := by decide +kernel
theorem dX4_worstWord_65 : decode cX4_worstWord 65 = .ok (.istore_n 2, 1) := by decide +kernel
theorem dX4_worstWord_66 : decode cX4_worstWord 66 = .ok (.iinc 3 1, 3) := by decide +kernel
theorem dX4_worstWord_69 : decode cX4_worstWord 69 = .ok (.goto (-61), 3) := by decide +kernel
theorem dX4_worstWord_72 : decode cX4_worstWord 72 = .ok (.iload_n 1, 1) := by decide +kernel
theorem dX4_worstWord_73 : decode cX4_worstWord 73 = .ok (.ireturn, 1) := by decide +kernel
theorem dX4_put_0 : decode cX4_put 0 = .ok (.lload_n 1, 1) := by decide +kernel
theorem dX4_put_1 : decode cX4_put 1 = .ok (.invokestatic 187, 3) := by decide +kernel
theorem dX4_put_4 : decode cX4_put 4 = .ok (.istore_n 3, 1) := by decide +kernel
theorem dX4_put_5 : decode cX4_put 5 = .ok (.iload_n 3, 1) := by decide +kernel
theorem dX4_put_6 : decode cX4_put 6 = .ok (.ifCond .ne 7, 3) := by decide +kernel
theorem dX4_put_9 : decode cX4_put 9 = .ok (.sipush (-1002), 3) := by decide +kernel
theorem dX4_put_12 : decode cX4_put 12 = .ok (.ireturn, 1) := by decide +kernel
theorem dX4_put_13 : decode cX4_put 13 = .ok (.aload_n 0, 1) := by decide +kernel
theorem dX4_put_14 : decode cX4_put 14 = .ok (.getfield 32, 3) := by decide +kernel
theorem dX4_put_17 : decode cX4_put 17 = .ok (.getfield 95, 3) := by decide +kernel
theorem dX4_put_20 : decode cX4_put 20 = .ok (.iload_n 3, 1) := by decide +kernel
theorem dX4_put_21 : decode cX4_put 21 = .ok (.iadd, 1) := by decide +kernel
theorem dX4_put_22 : decode cX4_put 22 = .ok (.bipush 60, 2) := by decide +kernel
theorem dX4_put_24 : decode cX4_put 24 = .ok (.if_icmp .le 7, 3) := by decide +kernel
theorem dX4_put_27 : decode cX4_put 27 = .ok (.sipush (-1004), 3) := by decide +kernel
theorem dX4_put_30 : decode cX4_put 30 = .ok (.ireturn, 1) := by decide +kernel
theorem dX4_put_31 : decode cX4_put 31 = .ok (.aload_n 0, 1) := by decide +kernel
theorem dX4_put_32 : decode cX4_put 32 = .ok (.getfield 32, 3) := by decide +kernel
theorem dX4_put_35 : decode cX4_put 35 = .ok (.lload_n 1, 1) := by decide +kernel
theorem dX4_put_36 : decode cX4_put 36 = .ok (.iload_n 3, 1) := by decide +kernel
theorem dX4_put_37 : decode cX4_put 37 = .ok (.invokevirtual 191, 3) := by decide +kernel
theorem dX4_put_40 : decode cX4_put 40 = .ok (.aload_n 0, 1) := by decide +kernel
theorem dX4_put_41 : decode cX4_put 41 = .ok (.getfield 32, 3) := by decide +kernel
theorem dX4_put_44 : decode cX4_put 44 = .ok (.getfield 95, 3) := by decide +kernel
theorem dX4_put_47 : decode cX4_put 47 = .ok (.ireturn, 1) := by decide +kernel
theorem dX4_wipe_0 : decode cX4_wipe 0 = .ok (.aload_n 0, 1) := by decide +kernel
theorem dX4_wipe_1 : decode cX4_wipe 1 = .ok (.getfield 32, 3) := by decide +kernel
theorem dX4_wipe_4 : decode cX4_wipe 4 = .ok (.getfield 95, 3) := by decide +kernel
theorem dX4_wipe_7 : decode cX4_wipe 7 = .ok (.istore_n 1, 1) := by decide +kernel
theorem dX4_wipe_8 : decode cX4_wipe 8 = .ok (.aload_n 0, 1) := by decide +kernel
theorem dX4_wipe_9 : decode cX4_wipe 9 = .ok (.getfield 32, 3) := by decide +kernel
theorem dX4_wipe_12 : decode cX4_wipe 12 = .ok (.iconst 0, 1) := by decide +kernel
theorem dX4_wipe_13 : decode cX4_wipe 13 = .ok (.putfield 95, 3) := by decide +kernel
theorem dX4_wipe_16 : decode cX4_wipe 16 = .ok (.iload_n 1, 1) := by decide +kernel
theorem dX4_wipe_17 : decode cX4_wipe 17 = .ok (.ireturn, 1) := by decide +kernel
theorem dX4_save_0 : decode cX4_save 0 = .ok (.iload_n 1, 1) := by decide +kernel
theorem dX4_save_1 : decode cX4_save 1 = .ok (.ifCond .lt 8, 3) := by decide +kernel
theorem dX4_save_4 : decode cX4_save 4 = .ok (.iload_n 1, 1) := by decide +kernel
theorem dX4_save_5 : decode cX4_save 5 = .ok (.iconst 2, 1) := by decide +kernel
theorem dX4_save_6 : decode cX4_save 6 = .ok (.if_icmp .lt 7, 3) := by decide +kernel
theorem dX4_save_9 : decode cX4_save 9 = .ok (.sipush (-1002), 3) := by decide +kernel
theorem dX4_save_12 : decode cX4_save 12 = .ok (.ireturn, 1) := by decide +kernel
theorem dX4_save_13 : decode cX4_save 13 = .ok (.aload_n 0, 1) := by decide +kernel
theorem dX4_save_14 : decode cX4_save 14 = .ok (.getfield 43, 3) := by decide +kernel
theorem dX4_save_17 : decode cX4_save 17 = .ok (.iload_n 1, 1) := by decide +kernel
theorem dX4_save_18 : decode cX4_save 18 = .ok (.aaload, 1) := by decide +kernel
theorem dX4_save_19 : decode cX4_save 19 = .ok (.aload_n 0, 1) := by decide +kernel
theorem dX4_save_20 : decode cX4_save 20 = .ok (.getfield 10, 3) := by decide +kernel
theorem dX4_save_23 : decode cX4_save 23 = .ok (.invokevirtual 180, 3) := by decide +kernel
theorem dX4_save_26 : decode cX4_save 26 = .ok (.aload_n 0, 1) := by decide +kernel
theorem dX4_save_27 : decode cX4_save 27 = .ok (.getfield 47, 3) := by decide +kernel
theorem dX4_save_30 : decode cX4_save 30 = .ok (.iload_n 1, 1) := by decide +kernel
theorem dX4_save_31 : decode cX4_save 31 = .ok (.iconst 1, 1) := by decide +kernel
theorem dX4_save_32 : decode cX4_save 32 = .ok (.bastore, 1) := by decide +kernel
theorem dX4_save_33 : decode cX4_save 33 = .ok (.aload_n 0, 1) := by decide +kernel
theorem dX4_save_34 : decode cX4_save 34 = .ok (.getfield 10, 3) := by decide +kernel
theorem dX4_save_37 : decode cX4_save 37 = .ok (.getfield 85, 3) := by decide +kernel
theorem dX4_save_40 : decode cX4_save 40 = .ok (.ireturn, 1) := by decide +kernel
theorem dX4_restore_0 : decode cX4_restore 0 = .ok (.iload_n 1, 1) := by decide +kernel
theorem dX4_restore_1 : decode cX4_restore 1 = .ok (.ifCond .lt 8, 3) := by decide +kernel
theorem dX4_restore_4 : decode cX4_restore 4 = .ok (.iload_n 1, 1) := by decide +kernel
theorem dX4_restore_5 : decode cX4_restore 5 = .ok (.iconst 2, 1) := by decide +kernel
theorem dX4_restore_6 : decode cX4_restore 6 = .ok (.if_icmp .lt 7, 3) := by decide +kernel
theorem dX4_restore_9 : decode cX4_restore 9 = .ok (.sipush (-1002), 3) := by decide +kernel
theorem dX4_restore_12 : decode cX4_restore 12 = .ok (.ireturn, 1) := by decide +kernel
theorem dX4_restore_13 : decode cX4_restore 13 = .ok (.aload_n 0, 1) := by decide +kernel
theorem dX4_restore_14 : decode cX4_restore 14 = .ok (.getfield 47, 3) := by decide +kernel
theorem dX4_restore_17 : decode cX4_restore 17 = .ok (.iload_n 1, 1) := by decide +kernel
theorem dX4_restore_18 : decode cX4_restore 18 = .ok (.baload, 1) := by decide +kernel
theorem dX4_restore_19 : decode cX4_restore 19 = .ok (.ifCond .ne 7, 3) := by decide +kernel
theorem dX4_restore_22 : decode cX4_restore 22 = .ok (.sipush (-1005), 3) := by decide +kernel
theorem dX4_restore_25 : decode cX4_restore 25 = .ok (.ireturn, 1) := by decide +kernel
theorem dX4_restore_26 : decode cX4_restore 26 = .ok (.aload_n 0, 1) := by decide +kernel
theorem dX4_restore_27 : decode cX4_restore 27 = .ok (.getfield 39, 3) := by decide +kernel
theorem dX4_restore_30 : decode cX4_restore 30 = .ok (.aload_n 0, 1) := by decide +kernel
theorem dX4_restore_31 : decode cX4_restore 31 = .ok (.getfield 10, 3) := by decide +kernel
theorem dX4_restore_34 : decode cX4_restore 34 = .ok (.invokevirtual 58, 3) := by decide +kernel
theorem dX4_restore_37 : decode cX4_restore 37 = .ok (.aload_n 0, 1) := by decide +kernel
theorem dX4_restore_38 : decode cX4_restore 38 = .ok (.getfield 10, 3) := by decide +kernel
theorem dX4_restore_41 : decode cX4_restore 41 = .ok (.aload_n 0, 1) := by decide +kernel
theorem dX4_restore_42 : decode cX4_restore 42 = .ok (.getfield 43, 3) := by decide +kernel
theorem dX4_restore_45 : decode cX4_restore 45 = .ok (.iload_n 1, 1) := by decide +kernel
theorem dX4_restore_46 : decode cX4_restore 46 = .ok (.aaload, 1) := by decide +kernel
theorem dX4_restore_47 : decode cX4_restore 47 = .ok (.invokevirtual 180, 3) := by decide +kernel
theorem dX4_restore_50 : decode cX4_restore 50 = .ok (.aload_n 0, 1) := by decide +kernel
theorem dX4_restore_51 : decode cX4_restore 51 = .ok (.getfield 10, 3) := by decide +kernel
theorem dX4_restore_54 : decode cX4_restore 54 = .ok (.getfield 85, 3) := by decide +kernel
theorem dX4_restore_57 : decode cX4_restore 57 = .ok (.ireturn, 1) := by decide +kernel
theorem dX4_isSort_0 : decode cX4_isSort 0 = .ok (.iload_n 0, 1) := by decide +kernel
theorem dX4_isSort_1 : decode cX4_isSort 1 = .ok (.ifCond .lt 13, 3) := by decide +kernel
theorem dX4_isSort_4 : decode cX4_isSort 4 = .ok (.iload_n 0, 1) := by decide +kernel
theorem dX4_isSort_5 : decode cX4_isSort 5 = .ok (.bipush 8, 2) := by decide +kernel
theorem dX4_isSort_7 : decode cX4_isSort 7 = .ok (.if_icmp .ge 7, 3) := by decide +kernel
theorem dX4_isSort_10 : decode cX4_isSort 10 = .ok (.iconst 1, 1) := by decide +kernel
theorem dX4_isSort_11 : decode cX4_isSort 11 = .ok (.goto 4, 3) := by decide +kernel
theorem dX4_isSort_14 : decode cX4_isSort 14 = .ok (.iconst 0, 1) := by decide +kernel
theorem dX4_isSort_15 : decode cX4_isSort 15 = .ok (.ireturn, 1) := by decide +kernel
theorem dX4_isShare_0 : decode cX4_isShare 0 = .ok (.iload_n 0, 1) := by decide +kernel
theorem dX4_isShare_1 : decode cX4_isShare 1 = .ok (.ifCond .lt 13, 3) := by decide +kernel
theorem dX4_isShare_4 : decode cX4_isShare 4 = .ok (.iload_n 0, 1) := by decide +kernel
theorem dX4_isShare_5 : decode cX4_isShare 5 = .ok (.bipush 100, 2) := by decide +kernel
theorem dX4_isShare_7 : decode cX4_isShare 7 = .ok (.if_icmp .gt 7, 3) := by decide +kernel
theorem dX4_isShare_10 : decode cX4_isShare 10 = .ok (.iconst 1, 1) := by decide +kernel
theorem dX4_isShare_11 : decode cX4_isShare 11 = .ok (.goto 4, 3) := by decide +kernel
theorem dX4_isShare_14 : decode cX4_isShare 14 = .ok (.iconst 0, 1) := by decide +kernel
theorem dX4_isShare_15 : decode cX4_isShare 15 = .ok (.ireturn, 1) := by decide +kernel
theorem dX4_isWay_0 : decode cX4_isWay 0 = .ok (.iload_n 0, 1) := by decide +kernel
theorem dX4_isWay_1 : decode cX4_isWay 1 = .ok (.ifCond .lt 12, 3) := by decide +kernel
theorem dX4_isWay_4 : decode cX4_isWay 4 = .ok (.iload_n 0, 1) := by decide +kernel
theorem dX4_isWay_5 : decode cX4_isWay 5 = .ok (.iconst 2, 1) := by decide +kernel
theorem dX4_isWay_6 : decode cX4_isWay 6 = .ok (.if_icmp .ge 7, 3) := by decide +kernel
theorem dX4_isWay_9 : decode cX4_isWay 9 = .ok (.iconst 1, 1) := by decide +kernel
theorem dX4_isWay_10 : decode cX4_isWay 10 = .ok (.goto 4, 3) := by decide +kernel
theorem dX4_isWay_13 : decode cX4_isWay 13 = .ok (.iconst 0, 1) := by decide +kernel
theorem dX4_isWay_14 : decode cX4_isWay 14 = .ok (.ireturn, 1) := by decide +kernel
theorem dX4_isWord_0 : decode cX4_isWord 0 = .ok (.iload_n 1, 1) := by decide +kernel
theorem dX4_isWord_1 : decode cX4_isWord 1 = .ok (.ifCond .lt 18, 3) := by decide +kernel
theorem dX4_isWord_4 : decode cX4_isWord 4 = .ok (.iload_n 1, 1) := by decide +kernel
theorem dX4_isWord_5 : decode cX4_isWord 5 = .ok (.aload_n 0, 1) := by decide +kernel
theorem dX4_isWord_6 : decode cX4_isWord 6 = .ok (.getfield 10, 3) := by decide +kernel
theorem dX4_isWord_9 : decode cX4_isWord 9 = .ok (.getfield 85, 3) := by decide +kernel
theorem dX4_isWord_12 : decode cX4_isWord 12 = .ok (.if_icmp .ge 7, 3) := by decide +kernel
theorem dX4_isWord_15 : decode cX4_isWord 15 = .ok (.iconst 1, 1) := by decide +kernel
theorem dX4_isWord_16 : decode cX4_isWord 16 = .ok (.goto 4, 3) := by decide +kernel
theorem dX4_isWord_19 : decode cX4_isWord 19 = .ok (.iconst 0, 1) := by decide +kernel
theorem dX4_isWord_20 : decode cX4_isWord 20 = .ok (.ireturn, 1) := by decide +kernel
theorem dX4_sortWith_0 : decode cX4_sortWith 0 = .ok (.iload_n 0, 1) := by decide +kernel
theorem dX4_sortWith_1 : decode cX4_sortWith 1 = .ok (.bipush 97, 2) := by decide +kernel
theorem dX4_sortWith_3 : decode cX4_sortWith 3 = .ok (.if_icmp .lt 11, 3) := by decide +kernel
theorem dX4_sortWith_6 : decode cX4_sortWith 6 = .ok (.iload_n 0, 1) := by decide +kernel
theorem dX4_sortWith_7 : decode cX4_sortWith 7 = .ok (.bipush 122, 2) := by decide +kernel
theorem dX4_sortWith_9 : decode cX4_sortWith 9 = .ok (.if_icmp .gt 5, 3) := by decide +kernel
theorem dX4_sortWith_12 : decode cX4_sortWith 12 = .ok (.iconst 0, 1) := by decide +kernel
theorem dX4_sortWith_13 : decode cX4_sortWith 13 = .ok (.ireturn, 1) := by decide +kernel
theorem dX4_sortWith_14 : decode cX4_sortWith 14 = .ok (.iload_n 0, 1) := by decide +kernel
theorem dX4_sortWith_15 : decode cX4_sortWith 15 = .ok (.lookupswitch 81 #[(33, 78), (39, 75), (44, 67), (45, 73), (46, 65), (58, 71), (59, 69)], 65) := by decide +kernel
theorem dX4_sortWith_80 : decode cX4_sortWith 80 = .ok (.iconst 1, 1) := by decide +kernel
theorem dX4_sortWith_81 : decode cX4_sortWith 81 = .ok (.ireturn, 1) := by decide +kernel
theorem dX4_sortWith_82 : decode cX4_sortWith 82 = .ok (.iconst 2, 1) := by decide +kernel
theorem dX4_sortWith_83 : decode cX4_sortWith 83 = .ok (.ireturn, 1) := by decide +kernel
theorem dX4_sortWith_84 : decode cX4_sortWith 84 = .ok (.iconst 3, 1) := by decide +kernel
theorem dX4_sortWith_85 : decode cX4_sortWith 85 = .ok (.ireturn, 1) := by decide +kernel
theorem dX4_sortWith_86 : decode cX4_sortWith 86 = .ok (.iconst 4, 1) := by decide +kernel
theorem dX4_sortWith_87 : decode cX4_sortWith 87 = .ok (.ireturn, 1) := by decide +kernel
theorem dX4_sortWith_88 : decode cX4_sortWith 88 = .ok (.iconst 5, 1) := by decide +kernel
theorem dX4_sortWith_89 : decode cX4_sortWith 89 = .ok (.ireturn, 1) := by decide +kernel
theorem dX4_sortWith_90 : decode cX4_sortWith 90 = .ok (.bipush 6, 2) := by decide +kernel
theorem dX4_sortWith_92 : decode cX4_sortWith 92 = .ok (.ireturn, 1) := by decide +kernel
theorem dX4_sortWith_93 : decode cX4_sortWith 93 = .ok (.bipush 7, 2) := by decide +kernel
theorem dX4_sortWith_95 : decode cX4_sortWith 95 = .ok (.ireturn, 1) := by decide +kernel
theorem dX4_sortWith_96 : decode cX4_sortWith 96 = .ok (.iconst (-1), 1) := by decide +kernel
theorem dX4_sortWith_97 : decode cX4_sortWith 97 = .ok (.ireturn, 1) := by decide +kernel
theorem dX4_broken_0 : decode cX4_broken 0 = .ok (.iload_n 1, 1) := by decide +kernel
theorem dX4_broken_1 : decode cX4_broken 1 = .ok (.ifCond .ne 10, 3) := by decide +kernel
theorem dX4_broken_4 : decode cX4_broken 4 = .ok (.aload_n 0, 1) := by decide +kernel
theorem dX4_broken_5 : decode cX4_broken 5 = .ok (.getfield 22, 3) := by decide +kernel
theorem dX4_broken_8 : decode cX4_broken 8 = .ok (.goto 7, 3) := by decide +kernel
theorem dX4_broken_11 : decode cX4_broken 11 = .ok (.aload_n 0, 1) := by decide +kernel
theorem dX4_broken_12 : decode cX4_broken 12 = .ok (.getfield 26, 3) := by decide +kernel
theorem dX4_broken_15 : decode cX4_broken 15 = .ok (.astore_n 2, 1) := by decide +kernel
theorem dX4_broken_16 : decode cX4_broken 16 = .ok (.aload_n 2, 1) := by decide +kernel
theorem dX4_broken_17 : decode cX4_broken 17 = .ok (.aload_n 0, 1) := by decide +kernel
theorem dX4_broken_18 : decode cX4_broken 18 = .ok (.getfield 10, 3) := by decide +kernel
theorem dX4_broken_21 : decode cX4_broken 21 = .ok (.invokevirtual 168, 3) := by decide +kernel
theorem dX4_broken_24 : decode cX4_broken 24 = .ok (.iload_n 1, 1) := by decide +kernel
theorem dX4_broken_25 : decode cX4_broken 25 = .ok (.ifCond .ne 10, 3) := by decide +kernel
theorem dX4_broken_28 : decode cX4_broken 28 = .ok (.aload_n 2, 1) := by decide +kernel
theorem dX4_broken_29 : decode cX4_broken 29 = .ok (.invokevirtual 177, 3) := by decide +kernel
theorem dX4_broken_32 : decode cX4_broken 32 = .ok (.goto 7, 3) := by decide +kernel
theorem dX4_broken_35 : decode cX4_broken 35 = .ok (.aload_n 2, 1) := by decide +kernel
theorem dX4_broken_36 : decode cX4_broken 36 = .ok (.invokevirtual 198, 3) := by decide +kernel
theorem dX4_broken_39 : decode cX4_broken 39 = .ok (.aload_n 2, 1) := by decide +kernel
theorem dX4_broken_40 : decode cX4_broken 40 = .ok (.areturn, 1) := by decide +kernel
theorem dX4_leastBadnessOf_0 : decode cX4_leastBadnessOf 0 = .ok (.aload_n 0, 1) := by decide +kernel
theorem dX4_leastBadnessOf_1 : decode cX4_leastBadnessOf 1 = .ok (.getfield 26, 3) := by decide +kernel
theorem dX4_leastBadnessOf_4 : decode cX4_leastBadnessOf 4 = .ok (.aload_n 1, 1) := by decide +kernel
theorem dX4_leastBadnessOf_5 : decode cX4_leastBadnessOf 5 = .ok (.invokevirtual 168, 3) := by decide +kernel
theorem dX4_leastBadnessOf_8 : decode cX4_leastBadnessOf 8 = .ok (.aload_n 0, 1) := by decide +kernel
theorem dX4_leastBadnessOf_9 : decode cX4_leastBadnessOf 9 = .ok (.getfield 26, 3) := by decide +kernel
theorem dX4_leastBadnessOf_12 : decode cX4_leastBadnessOf 12 = .ok (.invokevirtual 201, 3) := by decide +kernel
theorem dX4_leastBadnessOf_15 : decode cX4_leastBadnessOf 15 = .ok (.ireturn, 1) := by decide +kernel
theorem dL_cell_0 : decode cL_cell 0 = .ok (.iload_n 1, 1) := by decide +kernel
theorem dL_cell_1 : decode cL_cell 1 = .ok (.aload_n 0, 1) := by decide +kernel
theorem dL_cell_2 : decode cL_cell 2 = .ok (.arraylength, 1) := by decide +kernel
theorem dL_cell_3 : decode cL_cell 3 = .ok (.if_icmp .ge 9, 3) := by decide +kernel
theorem dL_cell_6 : decode cL_cell 6 = .ok (.aload_n 0, 1) := by decide +kernel
theorem dL_cell_7 : decode cL_cell 7 = .ok (.iload_n 1, 1) := by decide +kernel
theorem dL_cell_8 : decode cL_cell 8 = .ok (.iaload, 1) := by decide +kernel
theorem dL_cell_9 : decode cL_cell 9 = .ok (.goto 11, 3) := by decide +kernel
theorem dL_cell_12 : decode cL_cell 12 = .ok (.ldc 7, 2) := by decide +kernel
theorem dL_cell_14 : decode cL_cell 14 = .ok (.iload_n 1, 1) := by decide +kernel
theorem dL_cell_15 : decode cL_cell 15 = .ok (.sipush 1481, 3) := by decide +kernel
theorem dL_cell_18 : decode cL_cell 18 = .ok (.iadd, 1) := by decide +kernel
theorem dL_cell_19 : decode cL_cell 19 = .ok (.imul, 1) := by decide +kernel
theorem dL_cell_20 : decode cL_cell 20 = .ok (.ireturn, 1) := by decide +kernel
theorem dL_up_0 : decode cL_up 0 = .ok (.iload_n 0, 1) := by decide +kernel
theorem dL_up_1 : decode cL_up 1 = .ok (.ldc 8, 2) := by decide +kernel
theorem dL_up_3 : decode cL_up 3 = .ok (.iand, 1) := by decide +kernel
theorem dL_up_4 : decode cL_up 4 = .ok (.iload_n 1, 1) := by decide +kernel
theorem dL_up_5 : decode cL_up 5 = .ok (.irem, 1) := by decide +kernel
theorem dL_up_6 : decode cL_up 6 = .ok (.ireturn, 1) := by decide +kernel
theorem dL_there_0 : decode cL_there 0 = .ok (.iload_n 0, 1) := by decide +kernel
theorem dL_there_1 : decode cL_there 1 = .ok (.ifCond .eq 9, 3) := by decide +kernel
theorem dL_there_4 : decode cL_there 4 = .ok (.iload_n 0, 1) := by decide +kernel
theorem dL_there_5 : decode cL_there 5 = .ok (.bipush 7, 2) := by decide +kernel
theorem dL_there_7 : decode cL_there 7 = .ok (.if_icmp .ne 7, 3) := by decide +kernel
theorem dL_there_10 : decode cL_there 10 = .ok (.iload_n 0, 1) := by decide +kernel
theorem dL_there_11 : decode cL_there 11 = .ok (.goto 10, 3) := by decide +kernel
theorem dL_there_14 : decode cL_there 14 = .ok (.iload_n 0, 1) := by decide +kernel
theorem dL_there_15 : decode cL_there 15 = .ok (.iconst 1, 1) := by decide +kernel
theorem dL_there_16 : decode cL_there 16 = .ok (.isub, 1) := by decide +kernel
theorem dL_there_17 : decode cL_there 17 = .ok (.iconst 1, 1) := by decide +kernel
theorem dL_there_18 : decode cL_there 18 = .ok (.ixor, 1) := by decide +kernel
theorem dL_there_19 : decode cL_there 19 = .ok (.iconst 1, 1) := by decide +kernel
theorem dL_there_20 : decode cL_there 20 = .ok (.iadd, 1) := by decide +kernel
theorem dL_there_21 : decode cL_there 21 = .ok (.ireturn, 1) := by decide +kernel
theorem dL_code_0 : decode cL_code 0 = .ok (.iload_n 0, 1) := by decide +kernel
theorem dL_code_1 : decode cL_code 1 = .ok (.tableswitch 64 27 33 #[43, 46, 49, 52, 55, 58, 61], 43) := by decide +kernel
theorem dL_code_44 : decode cL_code 44 = .ok (.bipush 46, 2) := by decide +kernel
theorem dL_code_46 : decode cL_code 46 = .ok (.ireturn, 1) := by decide +kernel
theorem dL_code_47 : decode cL_code 47 = .ok (.bipush 44, 2) := by decide +kernel
theorem dL_code_49 : decode cL_code 49 = .ok (.ireturn, 1) := by decide +kernel
theorem dL_code_50 : decode cL_code 50 = .ok (.bipush 59, 2) := by decide +kernel
theorem dL_code_52 : decode cL_code 52 = .ok (.ireturn, 1) := by decide +kernel
theorem dL_code_53 : decode cL_code 53 = .ok (.bipush 58, 2) := by decide +kernel
theorem dL_code_55 : decode cL_code 55 = .ok (.ireturn, 1) := by decide +kernel
theorem dL_code_56 : decode cL_code 56 = .ok (.bipush 45, 2) := by decide +kernel
theorem dL_code_58 : decode cL_code 58 = .ok (.ireturn, 1) := by decide +kernel
theorem dL_code_59 : decode cL_code 59 = .ok (.bipush 39, 2) := by decide +kernel
theorem dL_code_61 : decode cL_code 61 = .ok (.ireturn, 1) := by decide +kernel
theorem dL_code_62 : decode cL_code 62 = .ok (.bipush 33, 2) := by decide +kernel
theorem dL_code_64 : decode cL_code 64 = .ok (.ireturn, 1) := by decide +kernel
theorem dL_code_65 : decode cL_code 65 = .ok (.bipush 97, 2) := by decide +kernel
theorem dL_code_67 : decode cL_code 67 = .ok (.iload_n 0, 1) := by decide +kernel
theorem dL_code_68 : decode cL_code 68 = .ok (.iconst 1, 1) := by decide +kernel
theorem dL_code_69 : decode cL_code 69 = .ok (.isub, 1) := by decide +kernel
theorem dL_code_70 : decode cL_code 70 = .ok (.bipush 26, 2) := by decide +kernel
theorem dL_code_72 : decode cL_code 72 = .ok (.irem, 1) := by decide +kernel
theorem dL_code_73 : decode cL_code 73 = .ok (.iadd, 1) := by decide +kernel
theorem dL_code_74 : decode cL_code 74 = .ok (.ireturn, 1) := by decide +kernel
theorem dL_other_0 : decode cL_other 0 = .ok (.iload_n 0, 1) := by decide +kernel
theorem dL_other_1 : decode cL_other 1 = .ok (.bipush 27, 2) := by decide +kernel
theorem dL_other_3 : decode cL_other 3 = .ok (.if_icmp .ge 12, 3) := by decide +kernel
theorem dL_other_6 : decode cL_other 6 = .ok (.iload_n 0, 1) := by decide +kernel
theorem dL_other_7 : decode cL_other 7 = .ok (.bipush 26, 2) := by decide +kernel
theorem dL_other_9 : decode cL_other 9 = .ok (.irem, 1) := by decide +kernel
theorem dL_other_10 : decode cL_other 10 = .ok (.iconst 1, 1) := by decide +kernel
theorem dL_other_11 : decode cL_other 11 = .ok (.iadd, 1) := by decide +kernel
theorem dL_other_12 : decode cL_other 12 = .ok (.goto 13, 3) := by decide +kernel
theorem dL_other_15 : decode cL_other 15 = .ok (.iload_n 0, 1) := by decide +kernel
theorem dL_other_16 : decode cL_other 16 = .ok (.bipush 26, 2) := by decide +kernel
theorem dL_other_18 : decode cL_other 18 = .ok (.isub, 1) := by decide +kernel
theorem dL_other_19 : decode cL_other 19 = .ok (.invokestatic 9, 3) := by decide +kernel
theorem dL_other_22 : decode cL_other 22 = .ok (.bipush 26, 2) := by decide +kernel
theorem dL_other_24 : decode cL_other 24 = .ok (.iadd, 1) := by decide +kernel
theorem dL_other_25 : decode cL_other 25 = .ok (.ireturn, 1) := by decide +kernel
theorem dL_signOf_0 : decode cL_signOf 0 = .ok (.iconst 0, 1) := by decide +kernel
theorem dL_signOf_1 : decode cL_signOf 1 = .ok (.istore_n 1, 1) := by decide +kernel
theorem dL_signOf_2 : decode cL_signOf 2 = .ok (.bipush 33, 2) := by decide +kernel
theorem dL_signOf_4 : decode cL_signOf 4 = .ok (.istore_n 2, 1) := by decide +kernel
theorem dL_signOf_5 : decode cL_signOf 5 = .ok (.iload_n 2, 1) := by decide +kernel
theorem dL_signOf_6 : decode cL_signOf 6 = .ok (.ifCond .le 23, 3) := by decide +kernel
theorem dL_signOf_9 : decode cL_signOf 9 = .ok (.iload_n 2, 1) := by decide +kernel
theorem dL_signOf_10 : decode cL_signOf 10 = .ok (.invokestatic 15, 3) := by decide +kernel
theorem dL_signOf_13 : decode cL_signOf 13 = .ok (.iload_n 0, 1) := by decide +kernel
theorem dL_signOf_14 : decode cL_signOf 14 = .ok (.if_icmp .ne 7, 3) := by decide +kernel
theorem dL_signOf_17 : decode cL_signOf 17 = .ok (.iload_n 2, 1) := by decide +kernel
theorem dL_signOf_18 : decode cL_signOf 18 = .ok (.goto 4, 3) := by decide +kernel
theorem dL_signOf_21 : decode cL_signOf 21 = .ok (.iload_n 1, 1) := by decide +kernel
theorem dL_signOf_22 : decode cL_signOf 22 = .ok (.istore_n 1, 1) := by decide +kernel
theorem dL_signOf_23 : decode cL_signOf 23 = .ok (.iinc 2 (-1), 3) := by decide +kernel
theorem dL_signOf_26 : decode cL_signOf 26 = .ok (.goto (-21), 3) := by decide +kernel
theorem dL_signOf_29 : decode cL_signOf 29 = .ok (.iload_n 1, 1) := by decide +kernel
theorem dL_signOf_30 : decode cL_signOf 30 = .ok (.ireturn, 1) := by decide +kernel
theorem dL_isRead_0 : decode cL_isRead 0 = .ok (.aload_n 0, 1) := by decide +kernel
theorem dL_isRead_1 : decode cL_isRead 1 = .ok (.invokevirtual 18, 3) := by decide +kernel
theorem dL_isRead_4 : decode cL_isRead 4 = .ok (.ifCond .lt 14, 3) := by decide +kernel
theorem dL_isRead_7 : decode cL_isRead 7 = .ok (.aload_n 1, 1) := by decide +kernel
theorem dL_isRead_8 : decode cL_isRead 8 = .ok (.invokevirtual 18, 3) := by decide +kernel
theorem dL_isRead_11 : decode cL_isRead 11 = .ok (.ifCond .lt 7, 3) := by decide +kernel
theorem dL_isRead_14 : decode cL_isRead 14 = .ok (.iconst 1, 1) := by decide +kernel
theorem dL_isRead_15 : decode cL_isRead 15 = .ok (.goto 4, 3) := by decide +kernel
theorem dL_isRead_18 : decode cL_isRead 18 = .ok (.iconst 0, 1) := by decide +kernel
theorem dL_isRead_19 : decode cL_isRead 19 = .ok (.istore 4, 2) := by decide +kernel
theorem dL_isRead_21 : decode cL_isRead 21 = .ok (.iconst 1, 1) := by decide +kernel
theorem dL_isRead_22 : decode cL_isRead 22 = .ok (.iload_n 2, 1) := by decide +kernel
theorem dL_isRead_23 : decode cL_isRead 23 = .ok (.iconst 5, 1) := by decide +kernel
theorem dL_isRead_24 : decode cL_isRead 24 = .ok (.invokestatic 24, 3) := by decide +kernel
theorem dL_isRead_27 : decode cL_isRead 27 = .ok (.iadd, 1) := by decide +kernel
theorem dL_isRead_28 : decode cL_isRead 28 = .ok (.istore 5, 2) := by decide +kernel
theorem dL_isRead_30 : decode cL_isRead 30 = .ok (.aload_n 0, 1) := by decide +kernel
theorem dL_isRead_31 : decode cL_isRead 31 = .ok (.iconst 4, 1) := by decide +kernel
theorem dL_isRead_32 : decode cL_isRead 32 = .ok (.invokevirtual 28, 3) := by decide +kernel
theorem dL_isRead_35 : decode cL_isRead 35 = .ok (.istore 6, 2) := by decide +kernel
theorem dL_isRead_37 : decode cL_isRead 37 = .ok (.iconst 0, 1) := by decide +kernel
theorem dL_isRead_38 : decode cL_isRead 38 = .ok (.istore 7, 2) := by decide +kernel
theorem dL_isRead_40 : decode cL_isRead 40 = .ok (.iload 7, 2) := by decide +kernel
theorem dL_isRead_42 : decode cL_isRead 42 = .ok (.iload 5, 2) := by decide +kernel
theorem dL_isRead_44 : decode cL_isRead 44 = .ok (.if_icmp .ge 208, 3) := by decide +kernel
theorem dL_isRead_47 : decode cL_isRead 47 = .ok (.iload_n 2, 1) := by decide +kernel
theorem dL_isRead_48 : decode cL_isRead 48 = .ok (.iconst 2, 1) := by decide +kernel
theorem dL_isRead_49 : decode cL_isRead 49 = .ok (.iload 7, 2) := by decide +kernel
theorem dL_isRead_51 : decode cL_isRead 51 = .ok (.imul, 1) := by decide +kernel
theorem dL_isRead_52 : decode cL_isRead 52 = .ok (.ishr, 1) := by decide +kernel
theorem dL_isRead_53 : decode cL_isRead 53 = .ok (.iload_n 3, 1) := by decide +kernel
theorem dL_isRead_54 : decode cL_isRead 54 = .ok (.iconst 3, 1) := by decide +kernel
theorem dL_isRead_55 : decode cL_isRead 55 = .ok (.iload 7, 2) := by decide +kernel
theorem dL_isRead_57 : decode cL_isRead 57 = .ok (.imul, 1) := by decide +kernel
theorem dL_isRead_58 : decode cL_isRead 58 = .ok (.ishr, 1) := by decide +kernel
theorem dL_isRead_59 : decode cL_isRead 59 = .ok (.ixor, 1) := by decide +kernel
theorem dL_isRead_60 : decode cL_isRead 60 = .ok (.istore 8, 2) := by decide +kernel
theorem dL_isRead_62 : decode cL_isRead 62 = .ok (.iconst 1, 1) := by decide +kernel
theorem dL_isRead_63 : decode cL_isRead 63 = .ok (.iload 8, 2) := by decide +kernel
theorem dL_isRead_65 : decode cL_isRead 65 = .ok (.iload 8, 2) := by decide +kernel
theorem dL_isRead_67 : decode cL_isRead 67 = .ok (.bipush 7, 2) := by decide +kernel
theorem dL_isRead_69 : decode cL_isRead 69 = .ok (.ishr, 1) := by decide +kernel
theorem dL_isRead_70 : decode cL_isRead 70 = .ok (.iconst 4, 1) := by decide +kernel
theorem dL_isRead_71 : decode cL_isRead 71 = .ok (.invokestatic 24, 3) := by decide +kernel
theorem dL_isRead_74 : decode cL_isRead 74 = .ok (.ifCond .ne 8, 3) := by decide +kernel
theorem dL_isRead_77 : decode cL_isRead 77 = .ok (.bipush 10, 2) := by decide +kernel
theorem dL_isRead_79 : decode cL_isRead 79 = .ok (.goto 4, 3) := by decide +kernel
theorem dL_isRead_82 : decode cL_isRead 82 = .ok (.iconst 5, 1) := by decide +kernel
theorem dL_isRead_83 : decode cL_isRead 83 = .ok (.invokestatic 24, 3) := by decide +kernel
theorem dL_isRead_86 : decode cL_isRead 86 = .ok (.iadd, 1) := by decide +kernel
theorem dL_isRead_87 : decode cL_isRead 87 = .ok (.istore 9, 2) := by decide +kernel
theorem dL_isRead_89 : decode cL_isRead 89 = .ok (.iload 4, 2) := by decide +kernel
theorem dL_isRead_91 : decode cL_isRead 91 = .ok (.ifCond .eq 32, 3) := by decide +kernel
theorem dL_isRead_94 : decode cL_isRead 94 = .ok (.iload 7, 2) := by decide +kernel
theorem dL_isRead_96 : decode cL_isRead 96 = .ok (.ifCond .eq 23, 3) := by decide +kernel
theorem dL_isRead_99 : decode cL_isRead 99 = .ok (.aload_n 0, 1) := by decide +kernel
theorem dL_isRead_100 : decode cL_isRead 100 = .ok (.ldc2_w 31, 3) := by decide +kernel
theorem dL_isRead_103 : decode cL_isRead 103 = .ok (.invokevirtual 33, 3) := by decide +kernel
theorem dL_isRead_106 : decode cL_isRead 106 = .ok (.ifCond .le 17, 3) := by decide +kernel
theorem dL_isRead_109 : decode cL_isRead 109 = .ok (.aload_n 1, 1) := by decide +kernel
theorem dL_isRead_110 : decode cL_isRead 110 = .ok (.ldc2_w 31, 3) := by decide +kernel
theorem dL_isRead_113 : decode cL_isRead 113 = .ok (.invokevirtual 33, 3) := by decide +kernel
theorem dL_isRead_116 : decode cL_isRead 116 = .ok (.ifCond .le 7, 3) := by decide +kernel
theorem dL_isRead_119 : decode cL_isRead 119 = .ok (.iconst 1, 1) := by decide +kernel
theorem dL_isRead_120 : decode cL_isRead 120 = .ok (.goto 4, 3) := by decide +kernel
theorem dL_isRead_123 : decode cL_isRead 123 = .ok (.iconst 0, 1) := by decide +kernel
theorem dL_isRead_124 : decode cL_isRead 124 = .ok (.istore 4, 2) := by decide +kernel
theorem dL_isRead_126 : decode cL_isRead 126 = .ok (.iconst 0, 1) := by decide +kernel
theorem dL_isRead_127 : decode cL_isRead 127 = .ok (.istore 10, 2) := by decide +kernel
theorem dL_isRead_129 : decode cL_isRead 129 = .ok (.iload 10, 2) := by decide +kernel
theorem dL_isRead_131 : decode cL_isRead 131 = .ok (.iload 9, 2) := by decide +kernel
theorem dL_isRead_133 : decode cL_isRead 133 = .ok (.if_icmp .ge 113, 3) := by decide +kernel
theorem dL_isRead_136 : decode cL_isRead 136 = .ok (.iload 8, 2) := by decide +kernel
theorem dL_isRead_138 : decode cL_isRead 138 = .ok (.iload 10, 2) := by decide +kernel
theorem dL_isRead_140 : decode cL_isRead 140 = .ok (.ishr, 1) := by decide +kernel
theorem dL_isRead_141 : decode cL_isRead 141 = .ok (.iload 10, 2) := by decide +kernel
theorem dL_isRead_143 : decode cL_isRead 143 = .ok (.ifCond .eq 12, 3) := by decide +kernel
theorem dL_isRead_146 : decode cL_isRead 146 = .ok (.iload 10, 2) := by decide +kernel
theorem dL_isRead_148 : decode cL_isRead 148 = .ok (.iload 9, 2) := by decide +kernel
theorem dL_isRead_150 : decode cL_isRead 150 = .ok (.iconst 1, 1) := by decide +kernel
theorem dL_isRead_151 : decode cL_isRead 151 = .ok (.isub, 1) := by decide +kernel
theorem dL_isRead_152 : decode cL_isRead 152 = .ok (.if_icmp .ne 7, 3) := by decide +kernel
theorem dL_isRead_155 : decode cL_isRead 155 = .ok (.iconst 2, 1) := by decide +kernel
theorem dL_isRead_156 : decode cL_isRead 156 = .ok (.goto 5, 3) := by decide +kernel
theorem dL_isRead_159 : decode cL_isRead 159 = .ok (.bipush 7, 2) := by decide +kernel
theorem dL_isRead_161 : decode cL_isRead 161 = .ok (.invokestatic 24, 3) := by decide +kernel
theorem dL_isRead_164 : decode cL_isRead 164 = .ok (.ifCond .ne 21, 3) := by decide +kernel
theorem dL_isRead_167 : decode cL_isRead 167 = .ok (.bipush 27, 2) := by decide +kernel
theorem dL_isRead_169 : decode cL_isRead 169 = .ok (.iload 8, 2) := by decide +kernel
theorem dL_isRead_171 : decode cL_isRead 171 = .ok (.iload 10, 2) := by decide +kernel
theorem dL_isRead_173 : decode cL_isRead 173 = .ok (.iconst 2, 1) := by decide +kernel
theorem dL_isRead_174 : decode cL_isRead 174 = .ok (.iadd, 1) := by decide +kernel
theorem dL_isRead_175 : decode cL_isRead 175 = .ok (.ishr, 1) := by decide +kernel
theorem dL_isRead_176 : decode cL_isRead 176 = .ok (.bipush 7, 2) := by decide +kernel
theorem dL_isRead_178 : decode cL_isRead 178 = .ok (.invokestatic 24, 3) := by decide +kernel
theorem dL_isRead_181 : decode cL_isRead 181 = .ok (.iadd, 1) := by decide +kernel
theorem dL_isRead_182 : decode cL_isRead 182 = .ok (.goto 15, 3) := by decide +kernel
theorem dL_isRead_185 : decode cL_isRead 185 = .ok (.iconst 1, 1) := by decide +kernel
theorem dL_isRead_186 : decode cL_isRead 186 = .ok (.iload 8, 2) := by decide +kernel
theorem dL_isRead_188 : decode cL_isRead 188 = .ok (.iload 10, 2) := by decide +kernel
theorem dL_isRead_190 : decode cL_isRead 190 = .ok (.ishr, 1) := by decide +kernel
theorem dL_isRead_191 : decode cL_isRead 191 = .ok (.bipush 26, 2) := by decide +kernel
theorem dL_isRead_193 : decode cL_isRead 193 = .ok (.invokestatic 24, 3) := by decide +kernel
theorem dL_isRead_196 : decode cL_isRead 196 = .ok (.iadd, 1) := by decide +kernel
theorem dL_isRead_197 : decode cL_isRead 197 = .ok (.istore 11, 2) := by decide +kernel
theorem dL_isRead_199 : decode cL_isRead 199 = .ok (.iload 4, 2) := by decide +kernel
theorem dL_isRead_201 : decode cL_isRead 201 = .ok (.ifCond .eq 36, 3) := by decide +kernel
theorem dL_isRead_204 : decode cL_isRead 204 = .ok (.aload_n 0, 1) := by decide +kernel
theorem dL_isRead_205 : decode cL_isRead 205 = .ok (.iload 11, 2) := by decide +kernel
theorem dL_isRead_207 : decode cL_isRead 207 = .ok (.invokestatic 15, 3) := by decide +kernel
theorem dL_isRead_210 : decode cL_isRead 210 = .ok (.i2l, 1) := by decide +kernel
theorem dL_isRead_211 : decode cL_isRead 211 = .ok (.invokevirtual 33, 3) := by decide +kernel
theorem dL_isRead_214 : decode cL_isRead 214 = .ok (.ifCond .le 23, 3) := by decide +kernel
theorem dL_isRead_217 : decode cL_isRead 217 = .ok (.aload_n 1, 1) := by decide +kernel
theorem dL_isRead_218 : decode cL_isRead 218 = .ok (.iload 11, 2) := by decide +kernel
theorem dL_isRead_220 : decode cL_isRead 220 = .ok (.invokestatic 37, 3) := by decide +kernel
theorem dL_isRead_223 : decode cL_isRead 223 = .ok (.invokestatic 15, 3) := by decide +kernel
theorem dL_isRead_226 : decode cL_isRead 226 = .ok (.i2l, 1) := by decide +kernel
theorem dL_isRead_227 : decode cL_isRead 227 = .ok (.invokevirtual 33, 3) := by decide +kernel
theorem dL_isRead_230 : decode cL_isRead 230 = .ok (.ifCond .le 7, 3) := by decide +kernel
theorem dL_isRead_233 : decode cL_isRead 233 = .ok (.iconst 1, 1) := by decide +kernel
theorem dL_isRead_234 : decode cL_isRead 234 = .ok (.goto 4, 3) := by decide +kernel
theorem dL_isRead_237 : decode cL_isRead 237 = .ok (.iconst 0, 1) := by decide +kernel
theorem dL_isRead_238 : decode cL_isRead 238 = .ok (.istore 4, 2) := by decide +kernel
theorem dL_isRead_240 : decode cL_isRead 240 = .ok (.iinc 10 1, 3) := by decide +kernel
theorem dL_isRead_243 : decode cL_isRead 243 = .ok (.goto (-114), 3) := by decide +kernel
theorem dL_isRead_246 : decode cL_isRead 246 = .ok (.iinc 7 1, 3) := by decide +kernel
theorem dL_isRead_249 : decode cL_isRead 249 = .ok (.goto (-209), 3) := by decide +kernel
theorem dL_isRead_252 : decode cL_isRead 252 = .ok (.aload_n 0, 1) := by decide +kernel
theorem dL_isRead_253 : decode cL_isRead 253 = .ok (.invokevirtual 40, 3) := by decide +kernel
theorem dL_isRead_256 : decode cL_isRead 256 = .ok (.istore 7, 2) := by decide +kernel
theorem dL_isRead_258 : decode cL_isRead 258 = .ok (.iload 4, 2) := by decide +kernel
theorem dL_isRead_260 : decode cL_isRead 260 = .ok (.ifCond .eq 42, 3) := by decide +kernel
theorem dL_isRead_263 : decode cL_isRead 263 = .ok (.iload 7, 2) := by decide +kernel
theorem dL_isRead_265 : decode cL_isRead 265 = .ok (.aload_n 1, 1) := by decide +kernel
theorem dL_isRead_266 : decode cL_isRead 266 = .ok (.invokevirtual 40, 3) := by decide +kernel
theorem dL_isRead_269 : decode cL_isRead 269 = .ok (.if_icmp .ne 33, 3) := by decide +kernel
theorem dL_isRead_272 : decode cL_isRead 272 = .ok (.iload 7, 2) := by decide +kernel
theorem dL_isRead_274 : decode cL_isRead 274 = .ok (.iload 6, 2) := by decide +kernel
theorem dL_isRead_276 : decode cL_isRead 276 = .ok (.iload 5, 2) := by decide +kernel
theorem dL_isRead_278 : decode cL_isRead 278 = .ok (.iadd, 1) := by decide +kernel
theorem dL_isRead_279 : decode cL_isRead 279 = .ok (.bipush 24, 2) := by decide +kernel
theorem dL_isRead_281 : decode cL_isRead 281 = .ok (.if_icmp .le 9, 3) := by decide +kernel
theorem dL_isRead_284 : decode cL_isRead 284 = .ok (.sipush (-1004), 3) := by decide +kernel
theorem dL_isRead_287 : decode cL_isRead 287 = .ok (.goto 8, 3) := by decide +kernel
theorem dL_isRead_290 : decode cL_isRead 290 = .ok (.iload 6, 2) := by decide +kernel
theorem dL_isRead_292 : decode cL_isRead 292 = .ok (.iload 5, 2) := by decide +kernel
theorem dL_isRead_294 : decode cL_isRead 294 = .ok (.iadd, 1) := by decide +kernel
theorem dL_isRead_295 : decode cL_isRead 295 = .ok (.if_icmp .ne 7, 3) := by decide +kernel
theorem dL_isRead_298 : decode cL_isRead 298 = .ok (.iconst 1, 1) := by decide +kernel
theorem dL_isRead_299 : decode cL_isRead 299 = .ok (.goto 4, 3) := by decide +kernel
theorem dL_isRead_302 : decode cL_isRead 302 = .ok (.iconst 0, 1) := by decide +kernel
theorem dL_isRead_303 : decode cL_isRead 303 = .ok (.ireturn, 1) := by decide +kernel
theorem dL_isStep_0 : decode cL_isStep 0 = .ok (.iload_n 2, 1) := by decide +kernel
theorem dL_isStep_1 : decode cL_isStep 1 = .ok (.iconst 4, 1) := by decide +kernel
theorem dL_isStep_2 : decode cL_isStep 2 = .ok (.ishr, 1) := by decide +kernel
theorem dL_isStep_3 : decode cL_isStep 3 = .ok (.istore 4, 2) := by decide +kernel
theorem dL_isStep_5 : decode cL_isStep 5 = .ok (.aload_n 0, 1) := by decide +kernel
theorem dL_isStep_6 : decode cL_isStep 6 = .ok (.iconst 4, 1) := by decide +kernel
theorem dL_isStep_7 : decode cL_isStep 7 = .ok (.invokevirtual 28, 3) := by decide +kernel
theorem dL_isStep_10 : decode cL_isStep 10 = .ok (.istore 5, 2) := by decide +kernel
theorem dL_isStep_12 : decode cL_isStep 12 = .ok (.iload_n 2, 1) := by decide +kernel
theorem dL_isStep_13 : decode cL_isStep 13 = .ok (.bipush 14, 2) := by decide +kernel
theorem dL_isStep_15 : decode cL_isStep 15 = .ok (.invokestatic 24, 3) := by decide +kernel
theorem dL_isStep_18 : decode cL_isStep 18 = .ok (.tableswitch 646 0 8 #[50, 50, 180, 180, 308, 392, 392, 538, 578], 50) := by decide +kernel
theorem dL_isStep_68 : decode cL_isStep 68 = .ok (.iload 4, 2) := by decide +kernel
theorem dL_isStep_70 : decode cL_isStep 70 = .ok (.iconst 4, 1) := by decide +kernel
theorem dL_isStep_71 : decode cL_isStep 71 = .ok (.invokestatic 24, 3) := by decide +kernel
theorem dL_isStep_74 : decode cL_isStep 74 = .ok (.istore 6, 2) := by decide +kernel
theorem dL_isStep_76 : decode cL_isStep 76 = .ok (.iload 6, 2) := by decide +kernel
theorem dL_isStep_78 : decode cL_isStep 78 = .ok (.ifCond .ne 30, 3) := by decide +kernel
theorem dL_isStep_81 : decode cL_isStep 81 = .ok (.bipush 20, 2) := by decide +kernel
theorem dL_isStep_83 : decode cL_isStep 83 = .ok (.iload_n 3, 1) := by decide +kernel
theorem dL_isStep_84 : decode cL_isStep 84 = .ok (.iload 4, 2) := by decide +kernel
theorem dL_isStep_86 : decode cL_isStep 86 = .ok (.iconst 3, 1) := by decide +kernel
theorem dL_isStep_87 : decode cL_isStep 87 = .ok (.invokestatic 24, 3) := by decide +kernel
theorem dL_isStep_90 : decode cL_isStep 90 = .ok (.ifCond .ne 9, 3) := by decide +kernel
theorem dL_isStep_93 : decode cL_isStep 93 = .ok (.sipush 181, 3) := by decide +kernel
