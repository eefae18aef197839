theorem dX0_init_0 : decode cX0_init 0 = .ok (.aload_n 0, 1) := by decide +kernel
theorem dX0_init_1 : decode cX0_init 1 = .ok (.invokespecial 3, 3) := by decide +kernel
theorem dX0_init_4 : decode cX0_init 4 = .ok (.aload_n 0, 1) := by decide +kernel
theorem dX0_init_5 : decode cX0_init 5 = .ok (.bipush 6, 2) := by decide +kernel
theorem dX0_init_7 : decode cX0_init 7 = .ok (.anewarray 9, 3) := by decide +kernel
theorem dX0_init_10 : decode cX0_init 10 = .ok (.putfield 11, 3) := by decide +kernel
theorem dX0_init_13 : decode cX0_init 13 = .ok (.aload_n 0, 1) := by decide +kernel
theorem dX0_init_14 : decode cX0_init 14 = .ok (.iconst 0, 1) := by decide +kernel
theorem dX0_init_15 : decode cX0_init 15 = .ok (.putfield 17, 3) := by decide +kernel
theorem dX0_init_18 : decode cX0_init 18 = .ok (.aload_n 0, 1) := by decide +kernel
theorem dX0_init_19 : decode cX0_init 19 = .ok (.iconst 0, 1) := by decide +kernel
theorem dX0_init_20 : decode cX0_init 20 = .ok (.putfield 21, 3) := by decide +kernel
theorem dX0_init_23 : decode cX0_init 23 = .ok (.iconst 0, 1) := by decide +kernel
theorem dX0_init_24 : decode cX0_init 24 = .ok (.istore_n 1, 1) := by decide +kernel
theorem dX0_init_25 : decode cX0_init 25 = .ok (.iload_n 1, 1) := by decide +kernel
theorem dX0_init_26 : decode cX0_init 26 = .ok (.bipush 6, 2) := by decide +kernel
theorem dX0_init_28 : decode cX0_init 28 = .ok (.if_icmp .ge 22, 3) := by decide +kernel
theorem dX0_init_31 : decode cX0_init 31 = .ok (.aload_n 0, 1) := by decide +kernel
theorem dX0_init_32 : decode cX0_init 32 = .ok (.getfield 11, 3) := by decide +kernel
theorem dX0_init_35 : decode cX0_init 35 = .ok (.iload_n 1, 1) := by decide +kernel
theorem dX0_init_36 : decode cX0_init 36 = .ok (.new 9, 3) := by decide +kernel
theorem dX0_init_39 : decode cX0_init 39 = .ok (.dup, 1) := by decide +kernel
theorem dX0_init_40 : decode cX0_init 40 = .ok (.invokespecial 24, 3) := by decide +kernel
theorem dX0_init_43 : decode cX0_init 43 = .ok (.aastore, 1) := by decide +kernel
theorem dX0_init_44 : decode cX0_init 44 = .ok (.iinc 1 1, 3) := by decide +kernel
theorem dX0_init_47 : decode cX0_init 47 = .ok (.goto (-22), 3) := by decide +kernel
theorem dX0_init_50 : decode cX0_init 50 = .ok (.return_, 1) := by decide +kernel
theorem dX0_record_0 : decode cX0_record 0 = .ok (.aload_n 0, 1) := by decide +kernel
theorem dX0_record_1 : decode cX0_record 1 = .ok (.getfield 11, 3) := by decide +kernel
theorem dX0_record_4 : decode cX0_record 4 = .ok (.aload_n 0, 1) := by decide +kernel
theorem dX0_record_5 : decode cX0_record 5 = .ok (.getfield 17, 3) := by decide +kernel
theorem dX0_record_8 : decode cX0_record 8 = .ok (.aaload, 1) := by decide +kernel
theorem dX0_record_9 : decode cX0_record 9 = .ok (.aload_n 1, 1) := by decide +kernel
theorem dX0_record_10 : decode cX0_record 10 = .ok (.invokevirtual 25, 3) := by decide +kernel
theorem dX0_record_13 : decode cX0_record 13 = .ok (.aload_n 0, 1) := by decide +kernel
theorem dX0_record_14 : decode cX0_record 14 = .ok (.aload_n 0, 1) := by decide +kernel
theorem dX0_record_15 : decode cX0_record 15 = .ok (.getfield 17, 3) := by decide +kernel
theorem dX0_record_18 : decode cX0_record 18 = .ok (.iconst 1, 1) := by decide +kernel
theorem dX0_record_19 : decode cX0_record 19 = .ok (.iadd, 1) := by decide +kernel
theorem dX0_record_20 : decode cX0_record 20 = .ok (.bipush 6, 2) := by decide +kernel
theorem dX0_record_22 : decode cX0_record 22 = .ok (.irem, 1) := by decide +kernel
theorem dX0_record_23 : decode cX0_record 23 = .ok (.putfield 17, 3) := by decide +kernel
theorem dX0_record_26 : decode cX0_record 26 = .ok (.aload_n 0, 1) := by decide +kernel
theorem dX0_record_27 : decode cX0_record 27 = .ok (.getfield 21, 3) := by decide +kernel
theorem dX0_record_30 : decode cX0_record 30 = .ok (.bipush 6, 2) := by decide +kernel
theorem dX0_record_32 : decode cX0_record 32 = .ok (.if_icmp .ge 13, 3) := by decide +kernel
theorem dX0_record_35 : decode cX0_record 35 = .ok (.aload_n 0, 1) := by decide +kernel
theorem dX0_record_36 : decode cX0_record 36 = .ok (.dup, 1) := by decide +kernel
theorem dX0_record_37 : decode cX0_record 37 = .ok (.getfield 21, 3) := by decide +kernel
theorem dX0_record_40 : decode cX0_record 40 = .ok (.iconst 1, 1) := by decide +kernel
theorem dX0_record_41 : decode cX0_record 41 = .ok (.iadd, 1) := by decide +kernel
theorem dX0_record_42 : decode cX0_record 42 = .ok (.putfield 21, 3) := by decide +kernel
theorem dX0_record_45 : decode cX0_record 45 = .ok (.return_, 1) := by decide +kernel
theorem dX1_init_0 : decode cX1_init 0 = .ok (.aload_n 0, 1) := by decide +kernel
theorem dX1_init_1 : decode cX1_init 1 = .ok (.invokespecial 3, 3) := by decide +kernel
theorem dX1_init_4 : decode cX1_init 4 = .ok (.aload_n 0, 1) := by decide +kernel
theorem dX1_init_5 : decode cX1_init 5 = .ok (.bipush 25, 2) := by decide +kernel
theorem dX1_init_7 : decode cX1_init 7 = .ok (.newarray .int, 2) := by decide +kernel
theorem dX1_init_9 : decode cX1_init 9 = .ok (.putfield 9, 3) := by decide +kernel
theorem dX1_init_12 : decode cX1_init 12 = .ok (.aload_n 0, 1) := by decide +kernel
theorem dX1_init_13 : decode cX1_init 13 = .ok (.bipush 24, 2) := by decide +kernel
theorem dX1_init_15 : decode cX1_init 15 = .ok (.newarray .int, 2) := by decide +kernel
theorem dX1_init_17 : decode cX1_init 17 = .ok (.putfield 15, 3) := by decide +kernel
theorem dX1_init_20 : decode cX1_init 20 = .ok (.aload_n 0, 1) := by decide +kernel
theorem dX1_init_21 : decode cX1_init 21 = .ok (.bipush 24, 2) := by decide +kernel
theorem dX1_init_23 : decode cX1_init 23 = .ok (.newarray .int, 2) := by decide +kernel
theorem dX1_init_25 : decode cX1_init 25 = .ok (.putfield 18, 3) := by decide +kernel
theorem dX1_init_28 : decode cX1_init 28 = .ok (.aload_n 0, 1) := by decide +kernel
theorem dX1_init_29 : decode cX1_init 29 = .ok (.iconst 0, 1) := by decide +kernel
theorem dX1_init_30 : decode cX1_init 30 = .ok (.putfield 21, 3) := by decide +kernel
theorem dX1_init_33 : decode cX1_init 33 = .ok (.aload_n 0, 1) := by decide +kernel
theorem dX1_init_34 : decode cX1_init 34 = .ok (.iconst 0, 1) := by decide +kernel
theorem dX1_init_35 : decode cX1_init 35 = .ok (.putfield 25, 3) := by decide +kernel
theorem dX1_init_38 : decode cX1_init 38 = .ok (.aload_n 0, 1) := by decide +kernel
theorem dX1_init_39 : decode cX1_init 39 = .ok (.iconst 0, 1) := by decide +kernel
theorem dX1_init_40 : decode cX1_init 40 = .ok (.putfield 28, 3) := by decide +kernel
theorem dX1_init_43 : decode cX1_init 43 = .ok (.aload_n 0, 1) := by decide +kernel
theorem dX1_init_44 : decode cX1_init 44 = .ok (.iconst 0, 1) := by decide +kernel
theorem dX1_init_45 : decode cX1_init 45 = .ok (.putfield 31, 3) := by decide +kernel
theorem dX1_init_48 : decode cX1_init 48 = .ok (.aload_n 0, 1) := by decide +kernel
theorem dX1_init_49 : decode cX1_init 49 = .ok (.bipush 25, 2) := by decide +kernel
theorem dX1_init_51 : decode cX1_init 51 = .ok (.newarray .int, 2) := by decide +kernel
theorem dX1_init_53 : decode cX1_init 53 = .ok (.putfield 34, 3) := by decide +kernel
theorem dX1_init_56 : decode cX1_init 56 = .ok (.aload_n 0, 1) := by decide +kernel
theorem dX1_init_57 : decode cX1_init 57 = .ok (.iconst 0, 1) := by decide +kernel
theorem dX1_init_58 : decode cX1_init 58 = .ok (.putfield 37, 3) := by decide +kernel
theorem dX1_init_61 : decode cX1_init 61 = .ok (.aload_n 0, 1) := by decide +kernel
theorem dX1_init_62 : decode cX1_init 62 = .ok (.bipush 25, 2) := by decide +kernel
theorem dX1_init_64 : decode cX1_init 64 = .ok (.newarray .int, 2) := by decide +kernel
theorem dX1_init_66 : decode cX1_init 66 = .ok (.putfield 40, 3) := by decide +kernel
theorem dX1_init_69 : decode cX1_init 69 = .ok (.aload_n 0, 1) := by decide +kernel
theorem dX1_init_70 : decode cX1_init 70 = .ok (.bipush 24, 2) := by decide +kernel
theorem dX1_init_72 : decode cX1_init 72 = .ok (.newarray .int, 2) := by decide +kernel
theorem dX1_init_74 : decode cX1_init 74 = .ok (.putfield 43, 3) := by decide +kernel
theorem dX1_init_77 : decode cX1_init 77 = .ok (.return_, 1) := by decide +kernel
theorem dX1_weigh_0 : decode cX1_weigh 0 = .ok (.aload_n 0, 1) := by decide +kernel
theorem dX1_weigh_1 : decode cX1_weigh 1 = .ok (.aload_n 1, 1) := by decide +kernel
theorem dX1_weigh_2 : decode cX1_weigh 2 = .ok (.getfield 46, 3) := by decide +kernel
theorem dX1_weigh_5 : decode cX1_weigh 5 = .ok (.putfield 21, 3) := by decide +kernel
theorem dX1_weigh_8 : decode cX1_weigh 8 = .ok (.aload_n 0, 1) := by decide +kernel
theorem dX1_weigh_9 : decode cX1_weigh 9 = .ok (.aload_n 1, 1) := by decide +kernel
theorem dX1_weigh_10 : decode cX1_weigh 10 = .ok (.getfield 49, 3) := by decide +kernel
theorem dX1_weigh_13 : decode cX1_weigh 13 = .ok (.iconst 0, 1) := by decide +kernel
theorem dX1_weigh_14 : decode cX1_weigh 14 = .ok (.iaload, 1) := by decide +kernel
theorem dX1_weigh_15 : decode cX1_weigh 15 = .ok (.putfield 25, 3) := by decide +kernel
theorem dX1_weigh_18 : decode cX1_weigh 18 = .ok (.aload_n 0, 1) := by decide +kernel
theorem dX1_weigh_19 : decode cX1_weigh 19 = .ok (.aload_n 1, 1) := by decide +kernel
theorem dX1_weigh_20 : decode cX1_weigh 20 = .ok (.getfield 49, 3) := by decide +kernel
theorem dX1_weigh_23 : decode cX1_weigh 23 = .ok (.iconst 1, 1) := by decide +kernel
theorem dX1_weigh_24 : decode cX1_weigh 24 = .ok (.iaload, 1) := by decide +kernel
theorem dX1_weigh_25 : decode cX1_weigh 25 = .ok (.putfield 28, 3) := by decide +kernel
theorem dX1_weigh_28 : decode cX1_weigh 28 = .ok (.aload_n 0, 1) := by decide +kernel
theorem dX1_weigh_29 : decode cX1_weigh 29 = .ok (.aload_n 1, 1) := by decide +kernel
theorem dX1_weigh_30 : decode cX1_weigh 30 = .ok (.getfield 49, 3) := by decide +kernel
theorem dX1_weigh_33 : decode cX1_weigh 33 = .ok (.iconst 2, 1) := by decide +kernel
theorem dX1_weigh_34 : decode cX1_weigh 34 = .ok (.iaload, 1) := by decide +kernel
theorem dX1_weigh_35 : decode cX1_weigh 35 = .ok (.putfield 31, 3) := by decide +kernel
theorem dX1_weigh_38 : decode cX1_weigh 38 = .ok (.aload_n 0, 1) := by decide +kernel
theorem dX1_weigh_39 : decode cX1_weigh 39 = .ok (.getfield 9, 3) := by decide +kernel
theorem dX1_weigh_42 : decode cX1_weigh 42 = .ok (.iconst 0, 1) := by decide +kernel
theorem dX1_weigh_43 : decode cX1_weigh 43 = .ok (.iconst 0, 1) := by decide +kernel
theorem dX1_weigh_44 : decode cX1_weigh 44 = .ok (.iastore, 1) := by decide +kernel
theorem dX1_weigh_45 : decode cX1_weigh 45 = .ok (.iconst 0, 1) := by decide +kernel
theorem dX1_weigh_46 : decode cX1_weigh 46 = .ok (.istore_n 2, 1) := by decide +kernel
theorem dX1_weigh_47 : decode cX1_weigh 47 = .ok (.iload_n 2, 1) := by decide +kernel
theorem dX1_weigh_48 : decode cX1_weigh 48 = .ok (.aload_n 0, 1) := by decide +kernel
theorem dX1_weigh_49 : decode cX1_weigh 49 = .ok (.getfield 21, 3) := by decide +kernel
theorem dX1_weigh_52 : decode cX1_weigh 52 = .ok (.if_icmp .ge 56, 3) := by decide +kernel
theorem dX1_weigh_55 : decode cX1_weigh 55 = .ok (.aload_n 0, 1) := by decide +kernel
theorem dX1_weigh_56 : decode cX1_weigh 56 = .ok (.getfield 9, 3) := by decide +kernel
theorem dX1_weigh_59 : decode cX1_weigh 59 = .ok (.iload_n 2, 1) := by decide +kernel
theorem dX1_weigh_60 : decode cX1_weigh 60 = .ok (.iconst 1, 1) := by decide +kernel
theorem dX1_weigh_61 : decode cX1_weigh 61 = .ok (.iadd, 1) := by decide +kernel
theorem dX1_weigh_62 : decode cX1_weigh 62 = .ok (.aload_n 0, 1) := by decide +kernel
theorem dX1_weigh_63 : decode cX1_weigh 63 = .ok (.getfield 9, 3) := by decide +kernel
theorem dX1_weigh_66 : decode cX1_weigh 66 = .ok (.iload_n 2, 1) := by decide +kernel
theorem dX1_weigh_67 : decode cX1_weigh 67 = .ok (.iaload, 1) := by decide +kernel
theorem dX1_weigh_68 : decode cX1_weigh 68 = .ok (.aload_n 1, 1) := by decide +kernel
theorem dX1_weigh_69 : decode cX1_weigh 69 = .ok (.iload_n 2, 1) := by decide +kernel
theorem dX1_weigh_70 : decode cX1_weigh 70 = .ok (.invokevirtual 52, 3) := by decide +kernel
theorem dX1_weigh_73 : decode cX1_weigh 73 = .ok (.iadd, 1) := by decide +kernel
theorem dX1_weigh_74 : decode cX1_weigh 74 = .ok (.aload_n 0, 1) := by decide +kernel
theorem dX1_weigh_75 : decode cX1_weigh 75 = .ok (.getfield 28, 3) := by decide +kernel
theorem dX1_weigh_78 : decode cX1_weigh 78 = .ok (.iadd, 1) := by decide +kernel
theorem dX1_weigh_79 : decode cX1_weigh 79 = .ok (.iastore, 1) := by decide +kernel
theorem dX1_weigh_80 : decode cX1_weigh 80 = .ok (.aload_n 0, 1) := by decide +kernel
theorem dX1_weigh_81 : decode cX1_weigh 81 = .ok (.getfield 15, 3) := by decide +kernel
theorem dX1_weigh_84 : decode cX1_weigh 84 = .ok (.iload_n 2, 1) := by decide +kernel
theorem dX1_weigh_85 : decode cX1_weigh 85 = .ok (.aload_n 1, 1) := by decide +kernel
theorem dX1_weigh_86 : decode cX1_weigh 86 = .ok (.iload_n 2, 1) := by decide +kernel
theorem dX1_weigh_87 : decode cX1_weigh 87 = .ok (.invokevirtual 56, 3) := by decide +kernel
theorem dX1_weigh_90 : decode cX1_weigh 90 = .ok (.iastore, 1) := by decide +kernel
theorem dX1_weigh_91 : decode cX1_weigh 91 = .ok (.aload_n 0, 1) := by decide +kernel
theorem dX1_weigh_92 : decode cX1_weigh 92 = .ok (.getfield 18, 3) := by decide +kernel
theorem dX1_weigh_95 : decode cX1_weigh 95 = .ok (.iload_n 2, 1) := by decide +kernel
theorem dX1_weigh_96 : decode cX1_weigh 96 = .ok (.aload_n 1, 1) := by decide +kernel
theorem dX1_weigh_97 : decode cX1_weigh 97 = .ok (.iload_n 2, 1) := by decide +kernel
theorem dX1_weigh_98 : decode cX1_weigh 98 = .ok (.invokevirtual 59, 3) := by decide +kernel
theorem dX1_weigh_101 : decode cX1_weigh 101 = .ok (.iastore, 1) := by decide +kernel
theorem dX1_weigh_102 : decode cX1_weigh 102 = .ok (.iinc 2 1, 3) := by decide +kernel
theorem dX1_weigh_105 : decode cX1_weigh 105 = .ok (.goto (-58), 3) := by decide +kernel
theorem dX1_weigh_108 : decode cX1_weigh 108 = .ok (.return_, 1) := by decide +kernel
theorem dX1_widthFrom_0 : decode cX1_widthFrom 0 = .ok (.aload_n 0, 1) := by decide +kernel
theorem dX1_widthFrom_1 : decode cX1_widthFrom 1 = .ok (.getfield 9, 3) := by decide +kernel
theorem dX1_widthFrom_4 : decode cX1_widthFrom 4 = .ok (.iload_n 2, 1) := by decide +kernel
theorem dX1_widthFrom_5 : decode cX1_widthFrom 5 = .ok (.iconst 1, 1) := by decide +kernel
theorem dX1_widthFrom_6 : decode cX1_widthFrom 6 = .ok (.iadd, 1) := by decide +kernel
theorem dX1_widthFrom_7 : decode cX1_widthFrom 7 = .ok (.iaload, 1) := by decide +kernel
theorem dX1_widthFrom_8 : decode cX1_widthFrom 8 = .ok (.aload_n 0, 1) := by decide +kernel
theorem dX1_widthFrom_9 : decode cX1_widthFrom 9 = .ok (.getfield 9, 3) := by decide +kernel
theorem dX1_widthFrom_12 : decode cX1_widthFrom 12 = .ok (.iload_n 1, 1) := by decide +kernel
theorem dX1_widthFrom_13 : decode cX1_widthFrom 13 = .ok (.iaload, 1) := by decide +kernel
theorem dX1_widthFrom_14 : decode cX1_widthFrom 14 = .ok (.isub, 1) := by decide +kernel
theorem dX1_widthFrom_15 : decode cX1_widthFrom 15 = .ok (.aload_n 0, 1) := by decide +kernel
theorem dX1_widthFrom_16 : decode cX1_widthFrom 16 = .ok (.getfield 28, 3) := by decide +kernel
theorem dX1_widthFrom_19 : decode cX1_widthFrom 19 = .ok (.isub, 1) := by decide +kernel
theorem dX1_widthFrom_20 : decode cX1_widthFrom 20 = .ok (.ireturn, 1) := by decide +kernel
theorem dX1_bodyOf_0 : decode cX1_bodyOf 0 = .ok (.aload_n 0, 1) := by decide +kernel
theorem dX1_bodyOf_1 : decode cX1_bodyOf 1 = .ok (.iload_n 1, 1) := by decide +kernel
theorem dX1_bodyOf_2 : decode cX1_bodyOf 2 = .ok (.iload_n 2, 1) := by decide +kernel
theorem dX1_bodyOf_3 : decode cX1_bodyOf 3 = .ok (.invokevirtual 62, 3) := by decide +kernel
theorem dX1_bodyOf_6 : decode cX1_bodyOf 6 = .ok (.aload_n 0, 1) := by decide +kernel
theorem dX1_bodyOf_7 : decode cX1_bodyOf 7 = .ok (.getfield 15, 3) := by decide +kernel
theorem dX1_bodyOf_10 : decode cX1_bodyOf 10 = .ok (.iload_n 1, 1) := by decide +kernel
theorem dX1_bodyOf_11 : decode cX1_bodyOf 11 = .ok (.iaload, 1) := by decide +kernel
theorem dX1_bodyOf_12 : decode cX1_bodyOf 12 = .ok (.isub, 1) := by decide +kernel
theorem dX1_bodyOf_13 : decode cX1_bodyOf 13 = .ok (.aload_n 0, 1) := by decide +kernel
theorem dX1_bodyOf_14 : decode cX1_bodyOf 14 = .ok (.getfield 18, 3) := by decide +kernel
theorem dX1_bodyOf_17 : decode cX1_bodyOf 17 = .ok (.iload_n 2, 1) := by decide +kernel
theorem dX1_bodyOf_18 : decode cX1_bodyOf 18 = .ok (.iaload, 1) := by decide +kernel
theorem dX1_bodyOf_19 : decode cX1_bodyOf 19 = .ok (.isub, 1) := by decide +kernel
theorem dX1_bodyOf_20 : decode cX1_bodyOf 20 = .ok (.ireturn, 1) := by decide +kernel
theorem dX1_fillGreedily_0 : decode cX1_fillGreedily 0 = .ok (.aload_n 0, 1) := by decide +kernel
theorem dX1_fillGreedily_1 : decode cX1_fillGreedily 1 = .ok (.iconst 0, 1) := by decide +kernel
theorem dX1_fillGreedily_2 : decode cX1_fillGreedily 2 = .ok (.putfield 37, 3) := by decide +kernel
theorem dX1_fillGreedily_5 : decode cX1_fillGreedily 5 = .ok (.iconst 0, 1) := by decide +kernel
theorem dX1_fillGreedily_6 : decode cX1_fillGreedily 6 = .ok (.istore_n 1, 1) := by decide +kernel
theorem dX1_fillGreedily_7 : decode cX1_fillGreedily 7 = .ok (.iload_n 1, 1) := by decide +kernel
theorem dX1_fillGreedily_8 : decode cX1_fillGreedily 8 = .ok (.aload_n 0, 1) := by decide +kernel
theorem dX1_fillGreedily_9 : decode cX1_fillGreedily 9 = .ok (.getfield 21, 3) := by decide +kernel
theorem dX1_fillGreedily_12 : decode cX1_fillGreedily 12 = .ok (.if_icmp .ge 59, 3) := by decide +kernel
theorem dX1_fillGreedily_15 : decode cX1_fillGreedily 15 = .ok (.aload_n 0, 1) := by decide +kernel
theorem dX1_fillGreedily_16 : decode cX1_fillGreedily 16 = .ok (.getfield 37, 3) := by decide +kernel
theorem dX1_fillGreedily_19 : decode cX1_fillGreedily 19 = .ok (.ifCond .eq 26, 3) := by decide +kernel
theorem dX1_fillGreedily_22 : decode cX1_fillGreedily 22 = .ok (.aload_n 0, 1) := by decide +kernel
theorem dX1_fillGreedily_23 : decode cX1_fillGreedily 23 = .ok (.aload_n 0, 1) := by decide +kernel
theorem dX1_fillGreedily_24 : decode cX1_fillGreedily 24 = .ok (.getfield 34, 3) := by decide +kernel
theorem dX1_fillGreedily_27 : decode cX1_fillGreedily 27 = .ok (.aload_n 0, 1) := by decide +kernel
theorem dX1_fillGreedily_28 : decode cX1_fillGreedily 28 = .ok (.getfield 37, 3) := by decide +kernel
theorem dX1_fillGreedily_31 : decode cX1_fillGreedily 31 = .ok (.iconst 1, 1) := by decide +kernel
theorem dX1_fillGreedily_32 : decode cX1_fillGreedily 32 = .ok (.isub, 1) := by decide +kernel
theorem dX1_fillGreedily_33 : decode cX1_fillGreedily 33 = .ok (.iaload, 1) := by decide +kernel
theorem dX1_fillGreedily_34 : decode cX1_fillGreedily 34 = .ok (.iload_n 1, 1) := by decide +kernel
theorem dX1_fillGreedily_35 : decode cX1_fillGreedily 35 = .ok (.invokevirtual 66, 3) := by decide +kernel
theorem dX1_fillGreedily_38 : decode cX1_fillGreedily 38 = .ok (.aload_n 0, 1) := by decide +kernel
theorem dX1_fillGreedily_39 : decode cX1_fillGreedily 39 = .ok (.getfield 25, 3) := by decide +kernel
theorem dX1_fillGreedily_42 : decode cX1_fillGreedily 42 = .ok (.if_icmp .le 23, 3) := by decide +kernel
theorem dX1_fillGreedily_45 : decode cX1_fillGreedily 45 = .ok (.aload_n 0, 1) := by decide +kernel
theorem dX1_fillGreedily_46 : decode cX1_fillGreedily 46 = .ok (.getfield 34, 3) := by decide +kernel
theorem dX1_fillGreedily_49 : decode cX1_fillGreedily 49 = .ok (.aload_n 0, 1) := by decide +kernel
theorem dX1_fillGreedily_50 : decode cX1_fillGreedily 50 = .ok (.getfield 37, 3) := by decide +kernel
theorem dX1_fillGreedily_53 : decode cX1_fillGreedily 53 = .ok (.iload_n 1, 1) := by decide +kernel
theorem dX1_fillGreedily_54 : decode cX1_fillGreedily 54 = .ok (.iastore, 1) := by decide +kernel
theorem dX1_fillGreedily_55 : decode cX1_fillGreedily 55 = .ok (.aload_n 0, 1) := by decide +kernel
theorem dX1_fillGreedily_56 : decode cX1_fillGreedily 56 = .ok (.dup, 1) := by decide +kernel
theorem dX1_fillGreedily_57 : decode cX1_fillGreedily 57 = .ok (.getfield 37, 3) := by decide +kernel
theorem dX1_fillGreedily_60 : decode cX1_fillGreedily 60 = .ok (.iconst 1, 1) := by decide +kernel
theorem dX1_fillGreedily_61 : decode cX1_fillGreedily 61 = .ok (.iadd, 1) := by decide +kernel
theorem dX1_fillGreedily_62 : decode cX1_fillGreedily 62 = .ok (.putfield 37, 3) := by decide +kernel
theorem dX1_fillGreedily_65 : decode cX1_fillGreedily 65 = .ok (.iinc 1 1, 3) := by decide +kernel
theorem dX1_fillGreedily_68 : decode cX1_fillGreedily 68 = .ok (.goto (-61), 3) := by decide +kernel
theorem dX1_fillGreedily_71 : decode cX1_fillGreedily 71 = .ok (.aload_n 0, 1) := by decide +kernel
theorem dX1_fillGreedily_72 : decode cX1_fillGreedily 72 = .ok (.getfield 34, 3) := by decide +kernel
theorem dX1_fillGreedily_75 : decode cX1_fillGreedily 75 = .ok (.aload_n 0, 1) := by decide +kernel
theorem dX1_fillGreedily_76 : decode cX1_fillGreedily 76 = .ok (.getfield 37, 3) := by decide +kernel
theorem dX1_fillGreedily_79 : decode cX1_fillGreedily 79 = .ok (.aload_n 0, 1) := by decide +kernel
theorem dX1_fillGreedily_80 : decode cX1_fillGreedily 80 = .ok (.getfield 21, 3) := by decide +kernel
theorem dX1_fillGreedily_83 : decode cX1_fillGreedily 83 = .ok (.iastore, 1) := by decide +kernel
theorem dX1_fillGreedily_84 : decode cX1_fillGreedily 84 = .ok (.return_, 1) := by decide +kernel
theorem dX1_breakBest_0 : decode cX1_breakBest 0 = .ok (.aload_n 0, 1) := by decide +kernel
theorem dX1_breakBest_1 : decode cX1_breakBest 1 = .ok (.invokevirtual 69, 3) := by decide +kernel
theorem dX1_breakBest_4 : decode cX1_breakBest 4 = .ok (.pop, 1) := by decide +kernel
theorem dX1_breakBest_5 : decode cX1_breakBest 5 = .ok (.aload_n 0, 1) := by decide +kernel
theorem dX1_breakBest_6 : decode cX1_breakBest 6 = .ok (.iconst 0, 1) := by decide +kernel
theorem dX1_breakBest_7 : decode cX1_breakBest 7 = .ok (.putfield 37, 3) := by decide +kernel
theorem dX1_breakBest_10 : decode cX1_breakBest 10 = .ok (.iconst 0, 1) := by decide +kernel
theorem dX1_breakBest_11 : decode cX1_breakBest 11 = .ok (.istore_n 1, 1) := by decide +kernel
theorem dX1_breakBest_12 : decode cX1_breakBest 12 = .ok (.iconst 0, 1) := by decide +kernel
theorem dX1_breakBest_13 : decode cX1_breakBest 13 = .ok (.istore_n 2, 1) := by decide +kernel
theorem dX1_breakBest_14 : decode cX1_breakBest 14 = .ok (.iload_n 2, 1) := by decide +kernel
theorem dX1_breakBest_15 : decode cX1_breakBest 15 = .ok (.aload_n 0, 1) := by decide +kernel
theorem dX1_breakBest_16 : decode cX1_breakBest 16 = .ok (.getfield 21, 3) := by decide +kernel
theorem dX1_breakBest_19 : decode cX1_breakBest 19 = .ok (.if_icmp .ge 41, 3) := by decide +kernel
theorem dX1_breakBest_22 : decode cX1_breakBest 22 = .ok (.iload_n 2, 1) := by decide +kernel
theorem dX1_breakBest_23 : decode cX1_breakBest 23 = .ok (.iload_n 1, 1) := by decide +kernel
theorem dX1_breakBest_24 : decode cX1_breakBest 24 = .ok (.if_icmp .ne 30, 3) := by decide +kernel
theorem dX1_breakBest_27 : decode cX1_breakBest 27 = .ok (.aload_n 0, 1) := by decide +kernel
theorem dX1_breakBest_28 : decode cX1_breakBest 28 = .ok (.getfield 34, 3) := by decide +kernel
theorem dX1_breakBest_31 : decode cX1_breakBest 31 = .ok (.aload_n 0, 1) := by decide +kernel
theorem dX1_breakBest_32 : decode cX1_breakBest 32 = .ok (.getfield 37, 3) := by decide +kernel
theorem dX1_breakBest_35 : decode cX1_breakBest 35 = .ok (.iload_n 2, 1) := by decide +kernel
theorem dX1_breakBest_36 : decode cX1_breakBest 36 = .ok (.iastore, 1) := by decide +kernel
theorem dX1_breakBest_37 : decode cX1_breakBest 37 = .ok (.aload_n 0, 1) := by decide +kernel
theorem dX1_breakBest_38 : decode cX1_breakBest 38 = .ok (.dup, 1) := by decide +kernel
theorem dX1_breakBest_39 : decode cX1_breakBest 39 = .ok (.getfield 37, 3) := by decide +kernel
theorem dX1_breakBest_42 : decode cX1_breakBest 42 = .ok (.iconst 1, 1) := by decide +kernel
theorem dX1_breakBest_43 : decode cX1_breakBest 43 = .ok (.iadd, 1) := by decide +kernel
theorem dX1_breakBest_44 : decode cX1_breakBest 44 = .ok (.putfield 37, 3) := by decide +kernel
theorem dX1_breakBest_47 : decode cX1_breakBest 47 = .ok (.aload_n 0, 1) := by decide +kernel
theorem dX1_breakBest_48 : decode cX1_breakBest 48 = .ok (.getfield 43, 3) := by decide +kernel
theorem dX1_breakBest_51 : decode cX1_breakBest 51 = .ok (.iload_n 2, 1) := by decide +kernel
theorem dX1_breakBest_52 : decode cX1_breakBest 52 = .ok (.iaload, 1) := by decide +kernel
theorem dX1_breakBest_53 : decode cX1_breakBest 53 = .ok (.istore_n 1, 1) := by decide +kernel
theorem dX1_breakBest_54 : decode cX1_breakBest 54 = .ok (.iinc 2 1, 3) := by decide +kernel
theorem dX1_breakBest_57 : decode cX1_breakBest 57 = .ok (.goto (-43), 3) := by decide +kernel
theorem dX1_breakBest_60 : decode cX1_breakBest 60 = .ok (.aload_n 0, 1) := by decide +kernel
theorem dX1_breakBest_61 : decode cX1_breakBest 61 = .ok (.getfield 34, 3) := by decide +kernel
theorem dX1_breakBest_64 : decode cX1_breakBest 64 = .ok (.aload_n 0, 1) := by decide +kernel
theorem dX1_breakBest_65 : decode cX1_breakBest 65 = .ok (.getfield 37, 3) := by decide +kernel
theorem dX1_breakBest_68 : decode cX1_breakBest 68 = .ok (.aload_n 0, 1) := by decide +kernel
theorem dX1_breakBest_69 : decode cX1_breakBest 69 = .ok (.getfield 21, 3) := by decide +kernel
theorem dX1_breakBest_72 : decode cX1_breakBest 72 = .ok (.iastore, 1) := by decide +kernel
theorem dX1_breakBest_73 : decode cX1_breakBest 73 = .ok (.return_, 1) := by decide +kernel
theorem dX1_leastBadness_0 : decode cX1_leastBadness 0 = .ok (.aload_n 0, 1) := by decide +kernel
theorem dX1_leastBadness_1 : decode cX1_leastBadness 1 = .ok (.getfield 40, 3) := by decide +kernel
theorem dX1_leastBadness_4 : decode cX1_leastBadness 4 = .ok (.aload_n 0, 1) := by decide +kernel
theorem dX1_leastBadness_5 : decode cX1_leastBadness 5 = .ok (.getfield 21, 3) := by decide +kernel
theorem dX1_leastBadness_8 : decode cX1_leastBadness 8 = .ok (.iconst 0, 1) := by decide +kernel
theorem dX1_leastBadness_9 : decode cX1_leastBadness 9 = .ok (.iastore, 1) := by decide +kernel
theorem dX1_leastBadness_10 : decode cX1_leastBadness 10 = .ok (.aload_n 0, 1) := by decide +kernel
theorem dX1_leastBadness_11 : decode cX1_leastBadness 11 = .ok (.getfield 21, 3) := by decide +kernel
theorem dX1_leastBadness_14 : decode cX1_leastBadness 14 = .ok (.iconst 1, 1) := by decide +kernel
theorem dX1_leastBadness_15 : decode cX1_leastBadness 15 = .ok (.isub, 1) := by decide +kernel
theorem dX1_leastBadness_16 : decode cX1_leastBadness 16 = .ok (.istore_n 1, 1) := by decide +kernel
theorem dX1_leastBadness_17 : decode cX1_leastBadness 17 = .ok (.iload_n 1, 1) := by decide +kernel
theorem dX1_leastBadness_18 : decode cX1_leastBadness 18 = .ok (.ifCond .lt 14, 3) := by decide +kernel
theorem dX1_leastBadness_21 : decode cX1_leastBadness 21 = .ok (.aload_n 0, 1) := by decide +kernel
theorem dX1_leastBadness_22 : decode cX1_leastBadness 22 = .ok (.iload_n 1, 1) := by decide +kernel
theorem dX1_leastBadness_23 : decode cX1_leastBadness 23 = .ok (.invokevirtual 73, 3) := by decide +kernel
theorem dX1_leastBadness_26 : decode cX1_leastBadness 26 = .ok (.iinc 1 (-1), 3) := by decide +kernel
theorem dX1_leastBadness_29 : decode cX1_leastBadness 29 = .ok (.goto (-12), 3) := by decide +kernel
theorem dX1_leastBadness_32 : decode cX1_leastBadness 32 = .ok (.aload_n 0, 1) := by decide +kernel
theorem dX1_leastBadness_33 : decode cX1_leastBadness 33 = .ok (.getfield 40, 3) := by decide +kernel
theorem dX1_leastBadness_36 : decode cX1_leastBadness 36 = .ok (.iconst 0, 1) := by decide +kernel
theorem dX1_leastBadness_37 : decode cX1_leastBadness 37 = .ok (.iaload, 1) := by decide +kernel
theorem dX1_leastBadness_38 : decode cX1_leastBadness 38 = .ok (.ireturn, 1) := by decide +kernel
theorem dX1_findFirstLine_0 : decode cX1_findFirstLine 0 = .ok (.aload_n 0, 1) := by decide +kernel
theorem dX1_findFirstLine_1 : decode cX1_findFirstLine 1 = .ok (.getfield 40, 3) := by decide +kernel
theorem dX1_findFirstLine_4 : decode cX1_findFirstLine 4 = .ok (.iload_n 1, 1) := by decide +kernel
theorem dX1_findFirstLine_5 : decode cX1_findFirstLine 5 = .ok (.aload_n 0, 1) := by decide +kernel
theorem dX1_findFirstLine_6 : decode cX1_findFirstLine 6 = .ok (.iload_n 1, 1) := by decide +kernel
theorem dX1_findFirstLine_7 : decode cX1_findFirstLine 7 = .ok (.iload_n 1, 1) := by decide +kernel
theorem dX1_findFirstLine_8 : decode cX1_findFirstLine 8 = .ok (.invokevirtual 77, 3) := by decide +kernel
theorem dX1_findFirstLine_11 : decode cX1_findFirstLine 11 = .ok (.aload_n 0, 1) := by decide +kernel
theorem dX1_findFirstLine_12 : decode cX1_findFirstLine 12 = .ok (.getfield 40, 3) := by decide +kernel
theorem dX1_findFirstLine_15 : decode cX1_findFirstLine 15 = .ok (.iload_n 1, 1) := by decide +kernel
theorem dX1_findFirstLine_16 : decode cX1_findFirstLine 16 = .ok (.iconst 1, 1) := by decide +kernel
theorem dX1_findFirstLine_17 : decode cX1_findFirstLine 17 = .ok (.iadd, 1) := by decide +kernel
theorem dX1_findFirstLine_18 : decode cX1_findFirstLine 18 = .ok (.iaload, 1) := by decide +kernel
theorem dX1_findFirstLine_19 : decode cX1_findFirstLine 19 = .ok (.iadd, 1) := by decide +kernel
theorem dX1_findFirstLine_20 : decode cX1_findFirstLine 20 = .ok (.iastore, 1) := by decide +kernel
theorem dX1_findFirstLine_21 : decode cX1_findFirstLine 21 = .ok (.aload_n 0, 1) := by decide +kernel
theorem dX1_findFirstLine_22 : decode cX1_findFirstLine 22 = .ok (.getfield 43, 3) := by decide +kernel
theorem dX1_findFirstLine_25 : decode cX1_findFirstLine 25 = .ok (.iload_n 1, 1) := by decide +kernel
theorem dX1_findFirstLine_26 : decode cX1_findFirstLine 26 = .ok (.iload_n 1, 1) := by decide +kernel
theorem dX1_findFirstLine_27 : decode cX1_findFirstLine 27 = .ok (.iconst 1, 1) := by decide +kernel
theorem dX1_findFirstLine_28 : decode cX1_findFirstLine 28 = .ok (.iadd, 1) := by decide +kernel
theorem dX1_findFirstLine_29 : decode cX1_findFirstLine 29 = .ok (.iastore, 1) := by decide +kernel
theorem dX1_findFirstLine_30 : decode cX1_findFirstLine 30 = .ok (.iload_n 1, 1) := by decide +kernel
theorem dX1_findFirstLine_31 : decode cX1_findFirstLine 31 = .ok (.iconst 1, 1) := by decide +kernel
theorem dX1_findFirstLine_32 : decode cX1_findFirstLine 32 = .ok (.iadd, 1) := by decide +kernel
theorem dX1_findFirstLine_33 : decode cX1_findFirstLine 33 = .ok (.istore_n 2, 1) := by decide +kernel
theorem dX1_findFirstLine_34 : decode cX1_findFirstLine 34 = .ok (.iload_n 2, 1) := by decide +kernel
theorem dX1_findFirstLine_35 : decode cX1_findFirstLine 35 = .ok (.aload_n 0, 1) := by decide +kernel
theorem dX1_findFirstLine_36 : decode cX1_findFirstLine 36 = .ok (.getfield 21, 3) := by decide +kernel
theorem dX1_findFirstLine_39 : decode cX1_findFirstLine 39 = .ok (.if_icmp .ge 64, 3) := by decide +kernel
theorem dX1_findFirstLine_42 : decode cX1_findFirstLine 42 = .ok (.aload_n 0, 1) := by decide +kernel
theorem dX1_findFirstLine_43 : decode cX1_findFirstLine 43 = .ok (.iload_n 1, 1) := by decide +kernel
theorem dX1_findFirstLine_44 : decode cX1_findFirstLine 44 = .ok (.iload_n 2, 1) := by decide +kernel
theorem dX1_findFirstLine_45 : decode cX1_findFirstLine 45 = .ok (.invokevirtual 66, 3) := by decide +kernel
theorem dX1_findFirstLine_48 : decode cX1_findFirstLine 48 = .ok (.aload_n 0, 1) := by decide +kernel
theorem dX1_findFirstLine_49 : decode cX1_findFirstLine 49 = .ok (.getfield 25, 3) := by decide +kernel
theorem dX1_findFirstLine_52 : decode cX1_findFirstLine 52 = .ok (.if_icmp .gt 51, 3) := by decide +kernel
theorem dX1_findFirstLine_55 : decode cX1_findFirstLine 55 = .ok (.aload_n 0, 1) := by decide +kernel
theorem dX1_findFirstLine_56 : decode cX1_findFirstLine 56 = .ok (.iload_n 1, 1) := by decide +kernel
theorem dX1_findFirstLine_57 : decode cX1_findFirstLine 57 = .ok (.iload_n 2, 1) := by decide +kernel
theorem dX1_findFirstLine_58 : decode cX1_findFirstLine 58 = .ok (.invokevirtual 77, 3) := by decide +kernel
theorem dX1_findFirstLine_61 : decode cX1_findFirstLine 61 = .ok (.aload_n 0, 1) := by decide +kernel
theorem dX1_findFirstLine_62 : decode cX1_findFirstLine 62 = .ok (.getfield 40, 3) := by decide +kernel
theorem dX1_findFirstLine_65 : decode cX1_findFirstLine 65 = .ok (.iload_n 2, 1) := by decide +kernel
theorem dX1_findFirstLine_66 : decode cX1_findFirstLine 66 = .ok (.iconst 1, 1) := by decide +kernel
theorem dX1_findFirstLine_67 : decode cX1_findFirstLine 67 = .ok (.iadd, 1) := by decide +kernel
theorem dX1_findFirstLine_68 : decode cX1_findFirstLine 68 = .ok (.iaload, 1) := by decide +kernel
theorem dX1_findFirstLine_69 : decode cX1_findFirstLine 69 = .ok (.iadd, 1) := by decide +kernel
theorem dX1_findFirstLine_70 : decode cX1_findFirstLine 70 = .ok (.istore_n 3, 1) := by decide +kernel
theorem dX1_findFirstLine_71 : decode cX1_findFirstLine 71 = .ok (.iload_n 3, 1) := by decide +kernel
theorem dX1_findFirstLine_72 : decode cX1_findFirstLine 72 = .ok (.aload_n 0, 1) := by decide +kernel
theorem dX1_findFirstLine_73 : decode cX1_findFirstLine 73 = .ok (.getfield 40, 3) := by decide +kernel
theorem dX1_findFirstLine_76 : decode cX1_findFirstLine 76 = .ok (.iload_n 1, 1) := by decide +kernel
theorem dX1_findFirstLine_77 : decode cX1_findFirstLine 77 = .ok (.iaload, 1) := by decide +kernel
theorem dX1_findFirstLine_78 : decode cX1_findFirstLine 78 = .ok (.if_icmp .gt 19, 3) := by decide +kernel
theorem dX1_findFirstLine_81 : decode cX1_findFirstLine 81 = .ok (.aload_n 0, 1) := by decide +kernel
theorem dX1_findFirstLine_82 : decode cX1_findFirstLine 82 = .ok (.getfield 40, 3) := by decide +kernel
theorem dX1_findFirstLine_85 : decode cX1_findFirstLine 85 = .ok (.iload_n 1, 1) := by decide +kernel
theorem dX1_findFirstLine_86 : decode cX1_findFirstLine 86 = .ok (.iload_n 3, 1) := by decide +kernel
theorem dX1_findFirstLine_87 : decode cX1_findFirstLine 87 = .ok (.iastore, 1) := by decide +kernel
theorem dX1_findFirstLine_88 : decode cX1_findFirstLine 88 = .ok (.aload_n 0, 1) := by decide +kernel
theorem dX1_findFirstLine_89 : decode cX1_findFirstLine 89 = .ok (.getfield 43, 3) := by decide +kernel
theorem dX1_findFirstLine_92 : decode cX1_findFirstLine 92 = .ok (.iload_n 1, 1) := by decide +kernel
theorem dX1_findFirstLine_93 : decode cX1_findFirstLine 93 = .ok (.iload_n 2, 1) := by decide +kernel
theorem dX1_findFirstLine_94 : decode cX1_findFirstLine 94 = .ok (.iconst 1, 1) := by decide +kernel
theorem dX1_findFirstLine_95 : decode cX1_findFirstLine 95 = .ok (.iadd, 1) := by decide +kernel
theorem dX1_findFirstLine_96 : decode cX1_findFirstLine 96 = .ok (.iastore, 1) := by decide +kernel
theorem dX1_findFirstLine_97 : decode cX1_findFirstLine 97 = .ok (.iinc 2 1, 3) := by decide +kernel
theorem dX1_findFirstLine_100 : decode cX1_findFirstLine 100 = .ok (.goto (-66), 3) := by decide +kernel
theorem dX1_findFirstLine_103 : decode cX1_findFirstLine 103 = .ok (.return_, 1) := by decide +kernel
theorem dX1_badnessOf_0 : decode cX1_badnessOf 0 = .ok (.aload_n 0, 1) := by decide +kernel
theorem dX1_badnessOf_1 : decode cX1_badnessOf 1 = .ok (.getfield 25, 3) := by decide +kernel
theorem dX1_badnessOf_4 : decode cX1_badnessOf 4 = .ok (.aload_n 0, 1) := by decide +kernel
theorem dX1_badnessOf_5 : decode cX1_badnessOf 5 = .ok (.iload_n 1, 1) := by decide +kernel
theorem dX1_badnessOf_6 : decode cX1_badnessOf 6 = .ok (.iload_n 2, 1) := by decide +kernel
theorem dX1_badnessOf_7 : decode cX1_badnessOf 7 = .ok (.invokevirtual 66, 3) := by decide +kernel
theorem dX1_badnessOf_10 : decode cX1_badnessOf 10 = .ok (.isub, 1) := by decide +kernel
theorem dX1_badnessOf_11 : decode cX1_badnessOf 11 = .ok (.istore_n 3, 1) := by decide +kernel
theorem dX1_badnessOf_12 : decode cX1_badnessOf 12 = .ok (.iload_n 3, 1) := by decide +kernel
theorem dX1_badnessOf_13 : decode cX1_badnessOf 13 = .ok (.ifCond .ge 7, 3) := by decide +kernel
theorem dX1_badnessOf_16 : decode cX1_badnessOf 16 = .ok (.sipush 10000, 3) := by decide +kernel
theorem dX1_badnessOf_19 : decode cX1_badnessOf 19 = .ok (.ireturn, 1) := by decide +kernel
theorem dX1_badnessOf_20 : decode cX1_badnessOf 20 = .ok (.iload_n 2, 1) := by decide +kernel
theorem dX1_badnessOf_21 : decode cX1_badnessOf 21 = .ok (.aload_n 0, 1) := by decide +kernel
theorem dX1_badnessOf_22 : decode cX1_badnessOf 22 = .ok (.getfield 21, 3) := by decide +kernel
theorem dX1_badnessOf_25 : decode cX1_badnessOf 25 = .ok (.iconst 1, 1) := by decide +kernel
theorem dX1_badnessOf_26 : decode cX1_badnessOf 26 = .ok (.isub, 1) := by decide +kernel
theorem dX1_badnessOf_27 : decode cX1_badnessOf 27 = .ok (.if_icmp .ne 7, 3) := by decide +kernel
theorem dX1_badnessOf_30 : decode cX1_badnessOf 30 = .ok (.iconst 0, 1) := by decide +kernel
theorem dX1_badnessOf_31 : decode cX1_badnessOf 31 = .ok (.goto 6, 3) := by decide +kernel
theorem dX1_badnessOf_34 : decode cX1_badnessOf 34 = .ok (.iload_n 3, 1) := by decide +kernel
theorem dX1_badnessOf_35 : decode cX1_badnessOf 35 = .ok (.iload_n 3, 1) := by decide +kernel
theorem dX1_badnessOf_36 : decode cX1_badnessOf 36 = .ok (.imul, 1) := by decide +kernel
theorem dX1_badnessOf_37 : decode cX1_badnessOf 37 = .ok (.ireturn, 1) := by decide +kernel
theorem dX1_lineWith_0 : decode cX1_lineWith 0 = .ok (.iconst 0, 1) := by decide +kernel
theorem dX1_lineWith_1 : decode cX1_lineWith 1 = .ok (.istore_n 2, 1) := by decide +kernel
theorem dX1_lineWith_2 : decode cX1_lineWith 2 = .ok (.iconst 0, 1) := by decide +kernel
theorem dX1_lineWith_3 : decode cX1_lineWith 3 = .ok (.istore_n 3, 1) := by decide +kernel
theorem dX1_lineWith_4 : decode cX1_lineWith 4 = .ok (.iload_n 3, 1) := by decide +kernel
theorem dX1_lineWith_5 : decode cX1_lineWith 5 = .ok (.aload_n 0, 1) := by decide +kernel
theorem dX1_lineWith_6 : decode cX1_lineWith 6 = .ok (.getfield 37, 3) := by decide +kernel
theorem dX1_lineWith_9 : decode cX1_lineWith 9 = .ok (.if_icmp .ge 21, 3) := by decide +kernel
theorem dX1_lineWith_12 : decode cX1_lineWith 12 = .ok (.aload_n 0, 1) := by decide +kernel
theorem dX1_lineWith_13 : decode cX1_lineWith 13 = .ok (.getfield 34, 3) := by decide +kernel
theorem dX1_lineWith_16 : decode cX1_lineWith 16 = .ok (.iload_n 3, 1) := by decide +kernel
theorem dX1_lineWith_17 : decode cX1_lineWith 17 = .ok (.iaload, 1) := by decide +kernel
theorem dX1_lineWith_18 : decode cX1_lineWith 18 = .ok (.iload_n 1, 1) := by decide +kernel
theorem dX1_lineWith_19 : decode cX1_lineWith 19 = .ok (.if_icmp .gt 5, 3) := by decide +kernel
theorem dX1_lineWith_22 : decode cX1_lineWith 22 = .ok (.iload_n 3, 1) := by decide +kernel
theorem dX1_lineWith_23 : decode cX1_lineWith 23 = .ok (.istore_n 2, 1) := by decide +kernel
theorem dX1_lineWith_24 : decode cX1_lineWith 24 = .ok (.iinc 3 1, 3) := by decide +kernel
theorem dX1_lineWith_27 : decode cX1_lineWith 27 = .ok (.goto (-23), 3) := by decide +kernel
theorem dX1_lineWith_30 : decode cX1_lineWith 30 = .ok (.iload_n 2, 1) := by decide +kernel
theorem dX1_lineWith_31 : decode cX1_lineWith 31 = .ok (.ireturn, 1) := by decide +kernel
theorem dX1_lastWord_0 : decode cX1_lastWord 0 = .ok (.aload_n 0, 1) := by decide +kernel
theorem dX1_lastWord_1 : decode cX1_lastWord 1 = .ok (.getfield 34, 3) := by decide +kernel
theorem dX1_lastWord_4 : decode cX1_lastWord 4 = .ok (.iload_n 1, 1) := by decide +kernel
theorem dX1_lastWord_5 : decode cX1_lastWord 5 = .ok (.iconst 1, 1) := by decide +kernel
theorem dX1_lastWord_6 : decode cX1_lastWord 6 = .ok (.iadd, 1) := by decide +kernel
theorem dX1_lastWord_7 : decode cX1_lastWord 7 = .ok (.iaload, 1) := by decide +kernel
theorem dX1_lastWord_8 : decode cX1_lastWord 8 = .ok (.iconst 1, 1) := by decide +kernel
theorem dX1_lastWord_9 : decode cX1_lastWord 9 = .ok (.isub, 1) := by decide +kernel
theorem dX1_lastWord_10 : decode cX1_lastWord 10 = .ok (.ireturn, 1) := by decide +kernel
theorem dX1_bodyOfLine_0 : decode cX1_bodyOfLine 0 = .ok (.aload_n 0, 1) := by decide +kernel
theorem dX1_bodyOfLine_1 : decode cX1_bodyOfLine 1 = .ok (.aload_n 0, 1) := by decide +kernel
theorem dX1_bodyOfLine_2 : decode cX1_bodyOfLine 2 = .ok (.getfield 34, 3) := by decide +kernel
theorem dX1_bodyOfLine_5 : decode cX1_bodyOfLine 5 = .ok (.iload_n 1, 1) := by decide +kernel
theorem dX1_bodyOfLine_6 : decode cX1_bodyOfLine 6 = .ok (.iaload, 1) := by decide +kernel
theorem dX1_bodyOfLine_7 : decode cX1_bodyOfLine 7 = .ok (.aload_n 0, 1) := by decide +kernel
theorem dX1_bodyOfLine_8 : decode cX1_bodyOfLine 8 = .ok (.iload_n 1, 1) := by decide +kernel
theorem dX1_bodyOfLine_9 : decode cX1_bodyOfLine 9 = .ok (.invokevirtual 80, 3) := by decide +kernel
theorem dX1_bodyOfLine_12 : decode cX1_bodyOfLine 12 = .ok (.invokevirtual 66, 3) := by decide +kernel
theorem dX1_bodyOfLine_15 : decode cX1_bodyOfLine 15 = .ok (.ireturn, 1) := by decide +kernel
theorem dX1_fits_0 : decode cX1_fits 0 = .ok (.aload_n 0, 1) := by decide +kernel
theorem dX1_fits_1 : decode cX1_fits 1 = .ok (.iload_n 1, 1) := by decide +kernel
theorem dX1_fits_2 : decode cX1_fits 2 = .ok (.invokevirtual 83, 3) := by decide +kernel
theorem dX1_fits_5 : decode cX1_fits 5 = .ok (.aload_n 0, 1) := by decide +kernel
theorem dX1_fits_6 : decode cX1_fits 6 = .ok (.getfield 25, 3) := by decide +kernel
theorem dX1_fits_9 : decode cX1_fits 9 = .ok (.if_icmp .gt 7, 3) := by decide +kernel
theorem dX1_fits_12 : decode cX1_fits 12 = .ok (.iconst 1, 1) := by decide +kernel
theorem dX1_fits_13 : decode cX1_fits 13 = .ok (.goto 4, 3) := by decide +kernel
theorem dX1_fits_16 : decode cX1_fits 16 = .ok (.iconst 0, 1) := by decide +kernel
theorem dX1_fits_17 : decode cX1_fits 17 = .ok (.ireturn, 1) := by decide +kernel
theorem dX1_looksIndented_0 : decode cX1_looksIndented 0 = .ok (.aload_n 0, 1) := by decide +kernel
theorem dX1_looksIndented_1 : decode cX1_looksIndented 1 = .ok (.iload_n 1, 1) := by decide +kernel
theorem dX1_looksIndented_2 : decode cX1_looksIndented 2 = .ok (.invokevirtual 86, 3) := by decide +kernel
theorem dX1_looksIndented_5 : decode cX1_looksIndented 5 = .ok (.ifCond .eq 34, 3) := by decide +kernel
theorem dX1_looksIndented_8 : decode cX1_looksIndented 8 = .ok (.iload_n 1, 1) := by decide +kernel
theorem dX1_looksIndented_9 : decode cX1_looksIndented 9 = .ok (.aload_n 0, 1) := by decide +kernel
theorem dX1_looksIndented_10 : decode cX1_looksIndented 10 = .ok (.getfield 37, 3) := by decide +kernel
theorem dX1_looksIndented_13 : decode cX1_looksIndented 13 = .ok (.iconst 1, 1) := by decide +kernel
theorem dX1_looksIndented_14 : decode cX1_looksIndented 14 = .ok (.isub, 1) := by decide +kernel
theorem dX1_looksIndented_15 : decode cX1_looksIndented 15 = .ok (.if_icmp .ge 24, 3) := by decide +kernel
theorem dX1_looksIndented_18 : decode cX1_looksIndented 18 = .ok (.aload_n 0, 1) := by decide +kernel
theorem dX1_looksIndented_19 : decode cX1_looksIndented 19 = .ok (.getfield 25, 3) := by decide +kernel
theorem dX1_looksIndented_22 : decode cX1_looksIndented 22 = .ok (.aload_n 0, 1) := by decide +kernel
theorem dX1_looksIndented_23 : decode cX1_looksIndented 23 = .ok (.iload_n 1, 1) := by decide +kernel
theorem dX1_looksIndented_24 : decode cX1_looksIndented 24 = .ok (.invokevirtual 83, 3) := by decide +kernel
theorem dX1_looksIndented_27 : decode cX1_looksIndented 27 = .ok (.isub, 1) := by decide +kernel
theorem dX1_looksIndented_28 : decode cX1_looksIndented 28 = .ok (.aload_n 0, 1) := by decide +kernel
theorem dX1_looksIndented_29 : decode cX1_looksIndented 29 = .ok (.getfield 31, 3) := by decide +kernel
theorem dX1_looksIndented_32 : decode cX1_looksIndented 32 = .ok (.if_icmp .le 7, 3) := by decide +kernel
theorem dX1_looksIndented_35 : decode cX1_looksIndented 35 = .ok (.iconst 1, 1) := by decide +kernel
theorem dX1_looksIndented_36 : decode cX1_looksIndented 36 = .ok (.goto 4, 3) := by decide +kernel
theorem dX1_looksIndented_39 : decode cX1_looksIndented 39 = .ok (.iconst 0, 1) := by decide +kernel
theorem dX1_looksIndented_40 : decode cX1_looksIndented 40 = .ok (.ireturn, 1) := by decide +kernel
theorem dX1_tellLine_0 : decode cX1_tellLine 0 = .ok (.iload_n 2, 1) := by decide +kernel
theorem dX1_tellLine_1 : decode cX1_tellLine 1 = .ok (.tableswitch 154 0 7 #[47, 54, 70, 86, 98, 109, 115, 140], 47) := by decide +kernel
theorem dX1_tellLine_48 : decode cX1_tellLine 48 = .ok (.aload_n 0, 1) := by decide +kernel
theorem dX1_tellLine_49 : decode cX1_tellLine 49 = .ok (.getfield 34, 3) := by decide +kernel
theorem dX1_tellLine_52 : decode cX1_tellLine 52 = .ok (.iload_n 1, 1) := by decide +kernel
theorem dX1_tellLine_53 : decode cX1_tellLine 53 = .ok (.iaload, 1) := by decide +kernel
theorem dX1_tellLine_54 : decode cX1_tellLine 54 = .ok (.ireturn, 1) := by decide +kernel
theorem dX1_tellLine_55 : decode cX1_tellLine 55 = .ok (.aload_n 0, 1) := by decide +kernel
theorem dX1_tellLine_56 : decode cX1_tellLine 56 = .ok (.getfield 34, 3) := by decide +kernel
theorem dX1_tellLine_59 : decode cX1_tellLine 59 = .ok (.iload_n 1, 1) := by decide +kernel
theorem dX1_tellLine_60 : decode cX1_tellLine 60 = .ok (.iconst 1, 1) := by decide +kernel
theorem dX1_tellLine_61 : decode cX1_tellLine 61 = .ok (.iadd, 1) := by decide +kernel
theorem dX1_tellLine_62 : decode cX1_tellLine 62 = .ok (.iaload, 1) := by decide +kernel
theorem dX1_tellLine_63 : decode cX1_tellLine 63 = .ok (.aload_n 0, 1) := by decide +kernel
theorem dX1_tellLine_64 : decode cX1_tellLine 64 = .ok (.getfield 34, 3) := by decide +kernel
theorem dX1_tellLine_67 : decode cX1_tellLine 67 = .ok (.iload_n 1, 1) := by decide +kernel
theorem dX1_tellLine_68 : decode cX1_tellLine 68 = .ok (.iaload, 1) := by decide +kernel
theorem dX1_tellLine_69 : decode cX1_tellLine 69 = .ok (.isub, 1) := by decide +kernel
theorem dX1_tellLine_70 : decode cX1_tellLine 70 = .ok (.ireturn, 1) := by decide +kernel
theorem dX1_tellLine_71 : decode cX1_tellLine 71 = .ok (.aload_n 0, 1) := by decide +kernel
theorem dX1_tellLine_72 : decode cX1_tellLine 72 = .ok (.aload_n 0, 1) := by decide +kernel
theorem dX1_tellLine_73 : decode cX1_tellLine 73 = .ok (.getfield 34, 3) := by decide +kernel
theorem dX1_tellLine_76 : decode cX1_tellLine 76 = .ok (.iload_n 1, 1) := by decide +kernel
theorem dX1_tellLine_77 : decode cX1_tellLine 77 = .ok (.iaload, 1) := by decide +kernel
theorem dX1_tellLine_78 : decode cX1_tellLine 78 = .ok (.aload_n 0, 1) := by decide +kernel
theorem dX1_tellLine_79 : decode cX1_tellLine 79 = .ok (.iload_n 1, 1) := by decide +kernel
theorem dX1_tellLine_80 : decode cX1_tellLine 80 = .ok (.invokevirtual 80, 3) := by decide +kernel
theorem dX1_tellLine_83 : decode cX1_tellLine 83 = .ok (.invokevirtual 62, 3) := by decide +kernel
theorem dX1_tellLine_86 : decode cX1_tellLine 86 = .ok (.ireturn, 1) := by decide +kernel
theorem dX1_tellLine_87 : decode cX1_tellLine 87 = .ok (.aload_n 0, 1) := by decide +kernel
theorem dX1_tellLine_88 : decode cX1_tellLine 88 = .ok (.getfield 15, 3) := by decide +kernel
theorem dX1_tellLine_91 : decode cX1_tellLine 91 = .ok (.aload_n 0, 1) := by decide +kernel
theorem dX1_tellLine_92 : decode cX1_tellLine 92 = .ok (.getfield 34, 3) := by decide +kernel
theorem dX1_tellLine_95 : decode cX1_tellLine 95 = .ok (.iload_n 1, 1) := by decide +kernel
theorem dX1_tellLine_96 : decode cX1_tellLine 96 = .ok (.iaload, 1) := by decide +kernel
theorem dX1_tellLine_97 : decode cX1_tellLine 97 = .ok (.iaload, 1) := by decide +kernel
theorem dX1_tellLine_98 : decode cX1_tellLine 98 = .ok (.ireturn, 1) := by decide +kernel
theorem dX1_tellLine_99 : decode cX1_tellLine 99 = .ok (.aload_n 0, 1) := by decide +kernel
theorem dX1_tellLine_100 : decode cX1_tellLine 100 = .ok (.getfield 18, 3) := by decide +kernel
theorem dX1_tellLine_103 : decode cX1_tellLine 103 = .ok (.aload_n 0, 1) := by decide +kernel
theorem dX1_tellLine_104 : decode cX1_tellLine 104 = .ok (.iload_n 1, 1) := by decide +kernel
theorem dX1_tellLine_105 : decode cX1_tellLine 105 = .ok (.invokevirtual 80, 3) := by decide +kernel
theorem dX1_tellLine_108 : decode cX1_tellLine 108 = .ok (.iaload, 1) := by decide +kernel
theorem dX1_tellLine_109 : decode cX1_tellLine 109 = .ok (.ireturn, 1) := by decide +kernel
theorem dX1_tellLine_110 : decode cX1_tellLine 110 = .ok (.aload_n 0, 1) := by decide +kernel
theorem dX1_tellLine_111 : decode cX1_tellLine 111 = .ok (.iload_n 1, 1) := by decide +kernel
theorem dX1_tellLine_112 : decode cX1_tellLine 112 = .ok (.invokevirtual 83, 3) := by decide +kernel
theorem dX1_tellLine_115 : decode cX1_tellLine 115 = .ok (.ireturn, 1) := by decide +kernel
theorem dX1_tellLine_116 : decode cX1_tellLine 116 = .ok (.aload_n 0, 1) := by decide +kernel
theorem dX1_tellLine_117 : decode cX1_tellLine 117 = .ok (.iload_n 1, 1) := by decide +kernel
theorem dX1_tellLine_118 : decode cX1_tellLine 118 = .ok (.invokevirtual 86, 3) := by decide +kernel
theorem dX1_tellLine_121 : decode cX1_tellLine 121 = .ok (.ifCond .eq 16, 3) := by decide +kernel
theorem dX1_tellLine_124 : decode cX1_tellLine 124 = .ok (.aload_n 0, 1) := by decide +kernel
theorem dX1_tellLine_125 : decode cX1_tellLine 125 = .ok (.getfield 25, 3) := by decide +kernel
theorem dX1_tellLine_128 : decode cX1_tellLine 128 = .ok (.aload_n 0, 1) := by decide +kernel
theorem dX1_tellLine_129 : decode cX1_tellLine 129 = .ok (.iload_n 1, 1) := by decide +kernel
theorem dX1_tellLine_130 : decode cX1_tellLine 130 = .ok (.invokevirtual 83, 3) := by decide +kernel
theorem dX1_tellLine_133 : decode cX1_tellLine 133 = .ok (.isub, 1) := by decide +kernel
theorem dX1_tellLine_134 : decode cX1_tellLine 134 = .ok (.goto 6, 3) := by decide +kernel
theorem dX1_tellLine_137 : decode cX1_tellLine 137 = .ok (.sipush (-1006), 3) := by decide +kernel
theorem dX1_tellLine_140 : decode cX1_tellLine 140 = .ok (.ireturn, 1) := by decide +kernel
theorem dX1_tellLine_141 : decode cX1_tellLine 141 = .ok (.aload_n 0, 1) := by decide +kernel
theorem dX1_tellLine_142 : decode cX1_tellLine 142 = .ok (.iload_n 1, 1) := by decide +kernel
theorem dX1_tellLine_143 : decode cX1_tellLine 143 = .ok (.invokevirtual 86, 3) := by decide +kernel
theorem dX1_tellLine_146 : decode cX1_tellLine 146 = .ok (.ifCond .eq 7, 3) := by decide +kernel
theorem dX1_tellLine_149 : decode cX1_tellLine 149 = .ok (.iconst 1, 1) := by decide +kernel
theorem dX1_tellLine_150 : decode cX1_tellLine 150 = .ok (.goto 4, 3) := by decide +kernel
theorem dX1_tellLine_153 : decode cX1_tellLine 153 = .ok (.iconst 0, 1) := by decide +kernel
theorem dX1_tellLine_154 : decode cX1_tellLine 154 = .ok (.ireturn, 1) := by decide +kernel
theorem dX1_tellLine_155 : decode cX1_tellLine 155 = .ok (.aload_n 0, 1) := by decide +kernel
theorem dX1_tellLine_156 : decode cX1_tellLine 156 = .ok (.iload_n 1, 1) := by decide +kernel
theorem dX1_tellLine_157 : decode cX1_tellLine 157 = .ok (.invokevirtual 90, 3) := by decide +kernel
theorem dX1_tellLine_160 : decode cX1_tellLine 160 = .ok (.ifCond .eq 7, 3) := by decide +kernel
theorem dX1_tellLine_163 : decode cX1_tellLine 163 = .ok (.iconst 1, 1) := by decide +kernel
theorem dX1_tellLine_164 : decode cX1_tellLine 164 = .ok (.goto 4, 3) := by decide +kernel
theorem dX1_tellLine_167 : decode cX1_tellLine 167 = .ok (.iconst 0, 1) := by decide +kernel
theorem dX1_tellLine_168 : decode cX1_tellLine 168 = .ok (.ireturn, 1) := by decide +kernel
theorem dX1_badness_0 : decode cX1_badness 0 = .ok (.iconst 0, 1) := by decide +kernel
theorem dX1_badness_1 : decode cX1_badness 1 = .ok (.istore_n 1, 1) := by decide +kernel
theorem dX1_badness_2 : decode cX1_badness 2 = .ok (.iconst 0, 1) := by decide +kernel
theorem dX1_badness_3 : decode cX1_badness 3 = .ok (.istore_n 2, 1) := by decide +kernel
theorem dX1_badness_4 : decode cX1_badness 4 = .ok (.iload_n 2, 1) := by decide +kernel
theorem dX1_badness_5 : decode cX1_badness 5 = .ok (.aload_n 0, 1) := by decide +kernel
theorem dX1_badness_6 : decode cX1_badness 6 = .ok (.getfield 37, 3) := by decide +kernel
theorem dX1_badness_9 : decode cX1_badness 9 = .ok (.if_icmp .ge 27, 3) := by decide +kernel
theorem dX1_badness_12 : decode cX1_badness 12 = .ok (.iload_n 1, 1) := by decide +kernel
theorem dX1_badness_13 : decode cX1_badness 13 = .ok (.aload_n 0, 1) := by decide +kernel
theorem dX1_badness_14 : decode cX1_badness 14 = .ok (.aload_n 0, 1) := by decide +kernel
theorem dX1_badness_15 : decode cX1_badness 15 = .ok (.getfield 34, 3) := by decide +kernel
theorem dX1_badness_18 : decode cX1_badness 18 = .ok (.iload_n 2, 1) := by decide +kernel
theorem dX1_badness_19 : decode cX1_badness 19 = .ok (.iaload, 1) := by decide +kernel
theorem dX1_badness_20 : decode cX1_badness 20 = .ok (.aload_n 0, 1) := by decide +kernel
theorem dX1_badness_21 : decode cX1_badness 21 = .ok (.iload_n 2, 1) := by decide +kernel
theorem dX1_badness_22 : decode cX1_badness 22 = .ok (.invokevirtual 80, 3) := by decide +kernel
theorem dX1_badness_25 : decode cX1_badness 25 = .ok (.invokevirtual 77, 3) := by decide +kernel
theorem dX1_badness_28 : decode cX1_badness 28 = .ok (.iadd, 1) := by decide +kernel
theorem dX1_badness_29 : decode cX1_badness 29 = .ok (.istore_n 1, 1) := by decide +kernel
theorem dX1_badness_30 : decode cX1_badness 30 = .ok (.iinc 2 1, 3) := by decide +kernel
theorem dX1_badness_33 : decode cX1_badness 33 = .ok (.goto (-29), 3) := by decide +kernel
theorem dX1_badness_36 : decode cX1_badness 36 = .ok (.iload_n 1, 1) := by decide +kernel
theorem dX1_badness_37 : decode cX1_badness 37 = .ok (.ireturn, 1) := by decide +kernel
theorem dX1_countIndented_0 : decode cX1_countIndented 0 = .ok (.iconst 0, 1) := by decide +kernel
theorem dX1_countIndented_1 : decode cX1_countIndented 1 = .ok (.istore_n 1, 1) := by decide +kernel
theorem dX1_countIndented_2 : decode cX1_countIndented 2 = .ok (.iconst 0, 1) := by decide +kernel
theorem dX1_countIndented_3 : decode cX1_countIndented 3 = .ok (.istore_n 2, 1) := by decide +kernel
theorem dX1_countIndented_4 : decode cX1_countIndented 4 = .ok (.iload_n 2, 1) := by decide +kernel
theorem dX1_countIndented_5 : decode cX1_countIndented 5 = .ok (.aload_n 0, 1) := by decide +kernel
theorem dX1_countIndented_6 : decode cX1_countIndented 6 = .ok (.getfield 37, 3) := by decide +kernel
theorem dX1_countIndented_9 : decode cX1_countIndented 9 = .ok (.if_icmp .ge 20, 3) := by decide +kernel
theorem dX1_countIndented_12 : decode cX1_countIndented 12 = .ok (.aload_n 0, 1) := by decide +kernel
theorem dX1_countIndented_13 : decode cX1_countIndented 13 = .ok (.iload_n 2, 1) := by decide +kernel
theorem dX1_countIndented_14 : decode cX1_countIndented 14 = .ok (.invokevirtual 90, 3) := by decide +kernel
theorem dX1_countIndented_17 : decode cX1_countIndented 17 = .ok (.ifCond .eq 6, 3) := by decide +kernel
theorem dX1_countIndented_20 : decode cX1_countIndented 20 = .ok (.iinc 1 1, 3) := by decide +kernel
theorem dX1_countIndented_23 : decode cX1_countIndented 23 = .ok (.iinc 2 1, 3) := by decide +kernel
theorem dX1_countIndented_26 : decode cX1_countIndented 26 = .ok (.goto (-22), 3) := by decide +kernel
theorem dX1_countIndented_29 : decode cX1_countIndented 29 = .ok (.iload_n 1, 1) := by decide +kernel
theorem dX1_countIndented_30 : decode cX1_countIndented 30 = .ok (.ireturn, 1) := by decide +kernel
theorem dX1_countUnfit_0 : decode cX1_countUnfit 0 = .ok (.iconst 0, 1) := by decide +kernel
theorem dX1_countUnfit_1 : decode cX1_countUnfit 1 = .ok (.istore_n 1, 1) := by decide +kernel
theorem dX1_countUnfit_2 : decode cX1_countUnfit 2 = .ok (.iconst 0, 1) := by decide +kernel
theorem dX1_countUnfit_3 : decode cX1_countUnfit 3 = .ok (.istore_n 2, 1) := by decide +kernel
theorem dX1_countUnfit_4 : decode cX1_countUnfit 4 = .ok (.iload_n 2, 1) := by decide +kernel
theorem dX1_countUnfit_5 : decode cX1_countUnfit 5 = .ok (.aload_n 0, 1) := by decide +kernel
theorem dX1_countUnfit_6 : decode cX1_countUnfit 6 = .ok (.getfield 37, 3) := by decide +kernel
theorem dX1_countUnfit_9 : decode cX1_countUnfit 9 = .ok (.if_icmp .ge 20, 3) := by decide +kernel
theorem dX1_countUnfit_12 : decode cX1_countUnfit 12 = .ok (.aload_n 0, 1) := by decide +kernel
theorem dX1_countUnfit_13 : decode cX1_countUnfit 13 = .ok (.iload_n 2, 1) := by decide +kernel
theorem dX1_countUnfit_14 : decode cX1_countUnfit 14 = .ok (.invokevirtual 86, 3) := by decide +kernel
theorem dX1_countUnfit_17 : decode cX1_countUnfit 17 = .ok (.ifCond .ne 6, 3) := by decide +kernel
theorem dX1_countUnfit_20 : decode cX1_countUnfit 20 = .ok (.iinc 1 1, 3) := by decide +kernel
theorem dX1_countUnfit_23 : decode cX1_countUnfit 23 = .ok (.iinc 2 1, 3) := by decide +kernel
theorem dX1_countUnfit_26 : decode cX1_countUnfit 26 = .ok (.goto (-22), 3) := by decide +kernel
theorem dX1_countUnfit_29 : decode cX1_countUnfit 29 = .ok (.iload_n 1, 1) := by decide +kernel
theorem dX1_countUnfit_30 : decode cX1_countUnfit 30 = .ok (.ireturn, 1) := by decide +kernel
theorem dX1_greatestBody_0 : decode cX1_greatestBody 0 = .ok (.aload_n 0, 1) := by decide +kernel
theorem dX1_greatestBody_1 : decode cX1_greatestBody 1 = .ok (.getfield 37, 3) := by decide +kernel
theorem dX1_greatestBody_4 : decode cX1_greatestBody 4 = .ok (.ifCond .ne 7, 3) := by decide +kernel
theorem dX1_greatestBody_7 : decode cX1_greatestBody 7 = .ok (.sipush (-1006), 3) := by decide +kernel
theorem dX1_greatestBody_10 : decode cX1_greatestBody 10 = .ok (.ireturn, 1) := by decide +kernel
theorem dX1_greatestBody_11 : decode cX1_greatestBody 11 = .ok (.aload_n 0, 1) := by decide +kernel
theorem dX1_greatestBody_12 : decode cX1_greatestBody 12 = .ok (.iconst 0, 1) := by decide +kernel
theorem dX1_greatestBody_13 : decode cX1_greatestBody 13 = .ok (.invokevirtual 83, 3) := by decide +kernel
theorem dX1_greatestBody_16 : decode cX1_greatestBody 16 = .ok (.istore_n 1, 1) := by decide +kernel
theorem dX1_greatestBody_17 : decode cX1_greatestBody 17 = .ok (.iconst 1, 1) := by decide +kernel
theorem dX1_greatestBody_18 : decode cX1_greatestBody 18 = .ok (.istore_n 2, 1) := by decide +kernel
theorem dX1_greatestBody_19 : decode cX1_greatestBody 19 = .ok (.iload_n 2, 1) := by decide +kernel
theorem dX1_greatestBody_20 : decode cX1_greatestBody 20 = .ok (.aload_n 0, 1) := by decide +kernel
theorem dX1_greatestBody_21 : decode cX1_greatestBody 21 = .ok (.getfield 37, 3) := by decide +kernel
theorem dX1_greatestBody_24 : decode cX1_greatestBody 24 = .ok (.if_icmp .ge 19, 3) := by decide +kernel
theorem dX1_greatestBody_27 : decode cX1_greatestBody 27 = .ok (.iload_n 1, 1) := by decide +kernel
theorem dX1_greatestBody_28 : decode cX1_greatestBody 28 = .ok (.aload_n 0, 1) := by decide +kernel
theorem dX1_greatestBody_29 : decode cX1_greatestBody 29 = .ok (.iload_n 2, 1) := by decide +kernel
theorem dX1_greatestBody_30 : decode cX1_greatestBody 30 = .ok (.invokevirtual 83, 3) := by decide +kernel
theorem dX1_greatestBody_33 : decode cX1_greatestBody 33 = .ok (.invokestatic 93, 3) := by decide +kernel
theorem dX1_greatestBody_36 : decode cX1_greatestBody 36 = .ok (.istore_n 1, 1) := by decide +kernel
theorem dX1_greatestBody_37 : decode cX1_greatestBody 37 = .ok (.iinc 2 1, 3) := by decide +kernel
theorem dX1_greatestBody_40 : decode cX1_greatestBody 40 = .ok (.goto (-21), 3) := by decide +kernel
theorem dX1_greatestBody_43 : decode cX1_greatestBody 43 = .ok (.iload_n 1, 1) := by decide +kernel
theorem dX1_greatestBody_44 : decode cX1_greatestBody 44 = .ok (.ireturn, 1) := by decide +kernel
theorem dX1_breaksLike_0 : decode cX1_breaksLike 0 = .ok (.aload_n 0, 1) := by decide +kernel
theorem dX1_breaksLike_1 : decode cX1_breaksLike 1 = .ok (.getfield 37, 3) := by decide +kernel
theorem dX1_breaksLike_4 : decode cX1_breaksLike 4 = .ok (.aload_n 1, 1) := by decide +kernel
theorem dX1_breaksLike_5 : decode cX1_breaksLike 5 = .ok (.getfield 37, 3) := by decide +kernel
theorem dX1_breaksLike_8 : decode cX1_breaksLike 8 = .ok (.if_icmp .eq 5, 3) := by decide +kernel
theorem dX1_breaksLike_11 : decode cX1_breaksLike 11 = .ok (.iconst 0, 1) := by decide +kernel
theorem dX1_breaksLike_12 : decode cX1_breaksLike 12 = .ok (.ireturn, 1) := by decide +kernel
theorem dX1_breaksLike_13 : decode cX1_breaksLike 13 = .ok (.iconst 0, 1) := by decide +kernel
theorem dX1_breaksLike_14 : decode cX1_breaksLike 14 = .ok (.istore_n 2, 1) := by decide +kernel
theorem dX1_breaksLike_15 : decode cX1_breaksLike 15 = .ok (.iload_n 2, 1) := by decide +kernel
theorem dX1_breaksLike_16 : decode cX1_breaksLike 16 = .ok (.aload_n 0, 1) := by decide +kernel
theorem dX1_breaksLike_17 : decode cX1_breaksLike 17 = .ok (.getfield 37, 3) := by decide +kernel
theorem dX1_breaksLike_20 : decode cX1_breaksLike 20 = .ok (.if_icmp .ge 26, 3) := by decide +kernel
theorem dX1_breaksLike_23 : decode cX1_breaksLike 23 = .ok (.aload_n 0, 1) := by decide +kernel
theorem dX1_breaksLike_24 : decode cX1_breaksLike 24 = .ok (.getfield 34, 3) := by decide +kernel
theorem dX1_breaksLike_27 : decode cX1_breaksLike 27 = .ok (.iload_n 2, 1) := by decide +kernel
theorem dX1_breaksLike_28 : decode cX1_breaksLike 28 = .ok (.iaload, 1) := by decide +kernel
theorem dX1_breaksLike_29 : decode cX1_breaksLike 29 = .ok (.aload_n 1, 1) := by decide +kernel
theorem dX1_breaksLike_30 : decode cX1_breaksLike 30 = .ok (.getfield 34, 3) := by decide +kernel
theorem dX1_breaksLike_33 : decode cX1_breaksLike 33 = .ok (.iload_n 2, 1) := by decide +kernel
theorem dX1_breaksLike_34 : decode cX1_breaksLike 34 = .ok (.iaload, 1) := by decide +kernel
theorem dX1_breaksLike_35 : decode cX1_breaksLike 35 = .ok (.if_icmp .eq 5, 3) := by decide +kernel
theorem dX1_breaksLike_38 : decode cX1_breaksLike 38 = .ok (.iconst 0, 1) := by decide +kernel
theorem dX1_breaksLike_39 : decode cX1_breaksLike 39 = .ok (.ireturn, 1) := by decide +kernel
theorem dX1_breaksLike_40 : decode cX1_breaksLike 40 = .ok (.iinc 2 1, 3) := by decide +kernel
theorem dX1_breaksLike_43 : decode cX1_breaksLike 43 = .ok (.goto (-28), 3) := by decide +kernel
theorem dX1_breaksLike_46 : decode cX1_breaksLike 46 = .ok (.iconst 1, 1) := by decide +kernel
theorem dX1_breaksLike_47 : decode cX1_breaksLike 47 = .ok (.ireturn, 1) := by decide +kernel
theorem dX2_init_0 : decode cX2_init 0 = .ok (.aload_n 0, 1) := by decide +kernel
theorem dX2_init_1 : decode cX2_init 1 = .ok (.invokespecial 3, 3) := by decide +kernel
theorem dX2_init_4 : decode cX2_init 4 = .ok (.aload_n 0, 1) := by decide +kernel
theorem dX2_init_5 : decode cX2_init 5 = .ok (.bipush 60, 2) := by decide +kernel
theorem dX2_init_7 : decode cX2_init 7 = .ok (.newarray .char, 2) := by decide +kernel
theorem dX2_init_9 : decode cX2_init 9 = .ok (.putfield 9, 3) := by decide +kernel
theorem dX2_init_12 : decode cX2_init 12 = .ok (.aload_n 0, 1) := by decide +kernel
theorem dX2_init_13 : decode cX2_init 13 = .ok (.iconst 0, 1) := by decide +kernel
theorem dX2_init_14 : decode cX2_init 14 = .ok (.putfield 15, 3) := by decide +kernel
theorem dX2_init_17 : decode cX2_init 17 = .ok (.return_, 1) := by decide +kernel
theorem dX2_lengthOf_0 : decode cX2_lengthOf 0 = .ok (.iconst 0, 1) := by decide +kernel
theorem dX2_lengthOf_1 : decode cX2_lengthOf 1 = .ok (.istore_n 2, 1) := by decide +kernel
theorem dX2_lengthOf_2 : decode cX2_lengthOf 2 = .ok (.lload_n 0, 1) := by decide +kernel
theorem dX2_lengthOf_3 : decode cX2_lengthOf 3 = .ok (.lstore_n 3, 1) := by decide +kernel
theorem dX2_lengthOf_4 : decode cX2_lengthOf 4 = .ok (.iconst 0, 1) := by decide +kernel
theorem dX2_lengthOf_5 : decode cX2_lengthOf 5 = .ok (.istore 5, 2) := by decide +kernel
theorem dX2_lengthOf_7 : decode cX2_lengthOf 7 = .ok (.iload 5, 2) := by decide +kernel
theorem dX2_lengthOf_9 : decode cX2_lengthOf 9 = .ok (.bipush 8, 2) := by decide +kernel
theorem dX2_lengthOf_11 : decode cX2_lengthOf 11 = .ok (.if_icmp .ge 47, 3) := by decide +kernel
theorem dX2_lengthOf_14 : decode cX2_lengthOf 14 = .ok (.lload_n 3, 1) := by decide +kernel
theorem dX2_lengthOf_15 : decode cX2_lengthOf 15 = .ok (.lconst 0, 1) := by decide +kernel
theorem dX2_lengthOf_16 : decode cX2_lengthOf 16 = .ok (.lcmp, 1) := by decide +kernel
theorem dX2_lengthOf_17 : decode cX2_lengthOf 17 = .ok (.ifCond .eq 41, 3) := by decide +kernel
theorem dX2_lengthOf_20 : decode cX2_lengthOf 20 = .ok (.lload_n 3, 1) := by decide +kernel
theorem dX2_lengthOf_21 : decode cX2_lengthOf 21 = .ok (.ldc2_w 19, 3) := by decide +kernel
theorem dX2_lengthOf_24 : decode cX2_lengthOf 24 = .ok (.land, 1) := by decide +kernel
theorem dX2_lengthOf_25 : decode cX2_lengthOf 25 = .ok (.l2i, 1) := by decide +kernel
theorem dX2_lengthOf_26 : decode cX2_lengthOf 26 = .ok (.istore 6, 2) := by decide +kernel
theorem dX2_lengthOf_28 : decode cX2_lengthOf 28 = .ok (.iload 6, 2) := by decide +kernel
theorem dX2_lengthOf_30 : decode cX2_lengthOf 30 = .ok (.bipush 33, 2) := by decide +kernel
theorem dX2_lengthOf_32 : decode cX2_lengthOf 32 = .ok (.if_icmp .lt 10, 3) := by decide +kernel
theorem dX2_lengthOf_35 : decode cX2_lengthOf 35 = .ok (.iload 6, 2) := by decide +kernel
theorem dX2_lengthOf_37 : decode cX2_lengthOf 37 = .ok (.bipush 126, 2) := by decide +kernel
theorem dX2_lengthOf_39 : decode cX2_lengthOf 39 = .ok (.if_icmp .le 5, 3) := by decide +kernel
theorem dX2_lengthOf_42 : decode cX2_lengthOf 42 = .ok (.iconst 0, 1) := by decide +kernel
theorem dX2_lengthOf_43 : decode cX2_lengthOf 43 = .ok (.ireturn, 1) := by decide +kernel
theorem dX2_lengthOf_44 : decode cX2_lengthOf 44 = .ok (.iinc 2 1, 3) := by decide +kernel
theorem dX2_lengthOf_47 : decode cX2_lengthOf 47 = .ok (.lload_n 3, 1) := by decide +kernel
theorem dX2_lengthOf_48 : decode cX2_lengthOf 48 = .ok (.bipush 8, 2) := by decide +kernel
theorem dX2_lengthOf_50 : decode cX2_lengthOf 50 = .ok (.lushr, 1) := by decide +kernel
theorem dX2_lengthOf_51 : decode cX2_lengthOf 51 = .ok (.lstore_n 3, 1) := by decide +kernel
theorem dX2_lengthOf_52 : decode cX2_lengthOf 52 = .ok (.iinc 5 1, 3) := by decide +kernel
theorem dX2_lengthOf_55 : decode cX2_lengthOf 55 = .ok (.goto (-48), 3) := by decide +kernel
theorem dX2_lengthOf_58 : decode cX2_lengthOf 58 = .ok (.iload_n 2, 1) := by decide +kernel
theorem dX2_lengthOf_59 : decode cX2_lengthOf 59 = .ok (.ireturn, 1) := by decide +kernel
theorem dX2_append_0 : decode cX2_append 0 = .ok (.iload_n 3, 1) := by decide +kernel
theorem dX2_append_1 : decode cX2_append 1 = .ok (.ifCond .lt 14, 3) := by decide +kernel
theorem dX2_append_4 : decode cX2_append 4 = .ok (.aload_n 0, 1) := by decide +kernel
theorem dX2_append_5 : decode cX2_append 5 = .ok (.getfield 15, 3) := by decide +kernel
theorem dX2_append_8 : decode cX2_append 8 = .ok (.iload_n 3, 1) := by decide +kernel
theorem dX2_append_9 : decode cX2_append 9 = .ok (.iadd, 1) := by decide +kernel
theorem dX2_append_10 : decode cX2_append 10 = .ok (.bipush 60, 2) := by decide +kernel
theorem dX2_append_12 : decode cX2_append 12 = .ok (.if_icmp .le 4, 3) := by decide +kernel
theorem dX2_append_15 : decode cX2_append 15 = .ok (.return_, 1) := by decide +kernel
theorem dX2_append_16 : decode cX2_append 16 = .ok (.iconst 0, 1) := by decide +kernel
theorem dX2_append_17 : decode cX2_append 17 = .ok (.istore 4, 2) := by decide +kernel
theorem dX2_append_19 : decode cX2_append 19 = .ok (.iload 4, 2) := by decide +kernel
theorem dX2_append_21 : decode cX2_append 21 = .ok (.iload_n 3, 1) := by decide +kernel
theorem dX2_append_22 : decode cX2_append 22 = .ok (.if_icmp .ge 38, 3) := by decide +kernel
theorem dX2_append_25 : decode cX2_append 25 = .ok (.aload_n 0, 1) := by decide +kernel
theorem dX2_append_26 : decode cX2_append 26 = .ok (.getfield 9, 3) := by decide +kernel
theorem dX2_append_29 : decode cX2_append 29 = .ok (.aload_n 0, 1) := by decide +kernel
theorem dX2_append_30 : decode cX2_append 30 = .ok (.getfield 15, 3) := by decide +kernel
theorem dX2_append_33 : decode cX2_append 33 = .ok (.iload_n 3, 1) := by decide +kernel
theorem dX2_append_34 : decode cX2_append 34 = .ok (.iadd, 1) := by decide +kernel
theorem dX2_append_35 : decode cX2_append 35 = .ok (.iconst 1, 1) := by decide +kernel
theorem dX2_append_36 : decode cX2_append 36 = .ok (.isub, 1) := by decide +kernel
theorem dX2_append_37 : decode cX2_append 37 = .ok (.iload 4, 2) := by decide +kernel
theorem dX2_append_39 : decode cX2_append 39 = .ok (.isub, 1) := by decide +kernel
theorem dX2_append_40 : decode cX2_append 40 = .ok (.lload_n 1, 1) := by decide +kernel
theorem dX2_append_41 : decode cX2_append 41 = .ok (.bipush 8, 2) := by decide +kernel
theorem dX2_append_43 : decode cX2_append 43 = .ok (.iload 4, 2) := by decide +kernel
theorem dX2_append_45 : decode cX2_append 45 = .ok (.imul, 1) := by decide +kernel
theorem dX2_append_46 : decode cX2_append 46 = .ok (.lushr, 1) := by decide +kernel
theorem dX2_append_47 : decode cX2_append 47 = .ok (.ldc2_w 19, 3) := by decide +kernel
theorem dX2_append_50 : decode cX2_append 50 = .ok (.land, 1) := by decide +kernel
theorem dX2_append_51 : decode cX2_append 51 = .ok (.l2i, 1) := by decide +kernel
theorem dX2_append_52 : decode cX2_append 52 = .ok (.i2c, 1) := by decide +kernel
theorem dX2_append_53 : decode cX2_append 53 = .ok (.castore, 1) := by decide +kernel
theorem dX2_append_54 : decode cX2_append 54 = .ok (.iinc 4 1, 3) := by decide +kernel
theorem dX2_append_57 : decode cX2_append 57 = .ok (.goto (-38), 3) := by decide +kernel
theorem dX2_append_60 : decode cX2_append 60 = .ok (.aload_n 0, 1) := by decide +kernel
theorem dX2_append_61 : decode cX2_append 61 = .ok (.dup, 1) := by decide +kernel
theorem dX2_append_62 : decode cX2_append 62 = .ok (.getfield 15, 3) := by decide +kernel
theorem dX2_append_65 : decode cX2_append 65 = .ok (.iload_n 3, 1) := by decide +kernel
theorem dX2_append_66 : decode cX2_append 66 = .ok (.iadd, 1) := by decide +kernel
theorem dX2_append_67 : decode cX2_append 67 = .ok (.putfield 15, 3) := by decide +kernel
theorem dX2_append_70 : decode cX2_append 70 = .ok (.return_, 1) := by decide +kernel
theorem dX2_firstFault_0 : decode cX2_firstFault 0 = .ok (.iconst 0, 1) := by decide +kernel
theorem dX2_firstFault_1 : decode cX2_firstFault 1 = .ok (.istore_n 1, 1) := by decide +kernel
theorem dX2_firstFault_2 : decode cX2_firstFault 2 = .ok (.iconst 0, 1) := by decide +kernel
theorem dX2_firstFault_3 : decode cX2_firstFault 3 = .ok (.istore_n 2, 1) := by decide +kernel
theorem dX2_firstFault_4 : decode cX2_firstFault 4 = .ok (.iload_n 2, 1) := by decide +kernel
theorem dX2_firstFault_5 : decode cX2_firstFault 5 = .ok (.aload_n 0, 1) := by decide +kernel
theorem dX2_firstFault_6 : decode cX2_firstFault 6 = .ok (.getfield 15, 3) := by decide +kernel
theorem dX2_firstFault_9 : decode cX2_firstFault 9 = .ok (.if_icmp .ge 54, 3) := by decide +kernel
theorem dX2_firstFault_12 : decode cX2_firstFault 12 = .ok (.aload_n 0, 1) := by decide +kernel
theorem dX2_firstFault_13 : decode cX2_firstFault 13 = .ok (.getfield 9, 3) := by decide +kernel
theorem dX2_firstFault_16 : decode cX2_firstFault 16 = .ok (.iload_n 2, 1) := by decide +kernel
theorem dX2_firstFault_17 : decode cX2_firstFault 17 = .ok (.caload, 1) := by decide +kernel
theorem dX2_firstFault_18 : decode cX2_firstFault 18 = .ok (.bipush 95, 2) := by decide +kernel
theorem dX2_firstFault_20 : decode cX2_firstFault 20 = .ok (.if_icmp .ne 14, 3) := by decide +kernel
theorem dX2_firstFault_23 : decode cX2_firstFault 23 = .ok (.iload_n 1, 1) := by decide +kernel
theorem dX2_firstFault_24 : decode cX2_firstFault 24 = .ok (.ifCond .ne 5, 3) := by decide +kernel
theorem dX2_firstFault_27 : decode cX2_firstFault 27 = .ok (.iload_n 2, 1) := by decide +kernel
theorem dX2_firstFault_28 : decode cX2_firstFault 28 = .ok (.ireturn, 1) := by decide +kernel
theorem dX2_firstFault_29 : decode cX2_firstFault 29 = .ok (.iconst 0, 1) := by decide +kernel
theorem dX2_firstFault_30 : decode cX2_firstFault 30 = .ok (.istore_n 1, 1) := by decide +kernel
theorem dX2_firstFault_31 : decode cX2_firstFault 31 = .ok (.goto 26, 3) := by decide +kernel
theorem dX2_firstFault_34 : decode cX2_firstFault 34 = .ok (.aload_n 0, 1) := by decide +kernel
theorem dX2_firstFault_35 : decode cX2_firstFault 35 = .ok (.getfield 9, 3) := by decide +kernel
theorem dX2_firstFault_38 : decode cX2_firstFault 38 = .ok (.iload_n 2, 1) := by decide +kernel
theorem dX2_firstFault_39 : decode cX2_firstFault 39 = .ok (.caload, 1) := by decide +kernel
theorem dX2_firstFault_40 : decode cX2_firstFault 40 = .ok (.invokestatic 21, 3) := by decide +kernel
theorem dX2_firstFault_43 : decode cX2_firstFault 43 = .ok (.ifCond .lt 9, 3) := by decide +kernel
theorem dX2_firstFault_46 : decode cX2_firstFault 46 = .ok (.iload_n 1, 1) := by decide +kernel
theorem dX2_firstFault_47 : decode cX2_firstFault 47 = .ok (.bipush 10, 2) := by decide +kernel
theorem dX2_firstFault_49 : decode cX2_firstFault 49 = .ok (.if_icmp .ne 5, 3) := by decide +kernel
theorem dX2_firstFault_52 : decode cX2_firstFault 52 = .ok (.iload_n 2, 1) := by decide +kernel
theorem dX2_firstFault_53 : decode cX2_firstFault 53 = .ok (.ireturn, 1) := by decide +kernel
theorem dX2_firstFault_54 : decode cX2_firstFault 54 = .ok (.iinc 1 1, 3) := by decide +kernel
theorem dX2_firstFault_57 : decode cX2_firstFault 57 = .ok (.iinc 2 1, 3) := by decide +kernel
theorem dX2_firstFault_60 : decode cX2_firstFault 60 = .ok (.goto (-56), 3) := by decide +kernel
theorem dX2_firstFault_63 : decode cX2_firstFault 63 = .ok (.iload_n 1, 1) := by decide +kernel
theorem dX2_firstFault_64 : decode cX2_firstFault 64 = .ok (.ifCond .ne 10, 3) := by decide +kernel
theorem dX2_firstFault_67 : decode cX2_firstFault 67 = .ok (.aload_n 0, 1) := by decide +kernel
theorem dX2_firstFault_68 : decode cX2_firstFault 68 = .ok (.getfield 15, 3) := by decide +kernel
theorem dX2_firstFault_71 : decode cX2_firstFault 71 = .ok (.goto 6, 3) := by decide +kernel
theorem dX2_firstFault_74 : decode cX2_firstFault 74 = .ok (.sipush (-1006), 3) := by decide +kernel
theorem dX2_firstFault_77 : decode cX2_firstFault 77 = .ok (.ireturn, 1) := by decide +kernel
theorem dX2_countWords_0 : decode cX2_countWords 0 = .ok (.iconst 1, 1) := by decide +kernel
theorem dX2_countWords_1 : decode cX2_countWords 1 = .ok (.istore_n 1, 1) := by decide +kernel
theorem dX2_countWords_2 : decode cX2_countWords 2 = .ok (.iconst 0, 1) := by decide +kernel
theorem dX2_countWords_3 : decode cX2_countWords 3 = .ok (.istore_n 2, 1) := by decide +kernel
theorem dX2_countWords_4 : decode cX2_countWords 4 = .ok (.iload_n 2, 1) := by decide +kernel
theorem dX2_countWords_5 : decode cX2_countWords 5 = .ok (.aload_n 0, 1) := by decide +kernel
theorem dX2_countWords_6 : decode cX2_countWords 6 = .ok (.getfield 15, 3) := by decide +kernel
theorem dX2_countWords_9 : decode cX2_countWords 9 = .ok (.if_icmp .ge 23, 3) := by decide +kernel
theorem dX2_countWords_12 : decode cX2_countWords 12 = .ok (.aload_n 0, 1) := by decide +kernel
theorem dX2_countWords_13 : decode cX2_countWords 13 = .ok (.getfield 9, 3) := by decide +kernel
theorem dX2_countWords_16 : decode cX2_countWords 16 = .ok (.iload_n 2, 1) := by decide +kernel
theorem dX2_countWords_17 : decode cX2_countWords 17 = .ok (.caload, 1) := by decide +kernel
theorem dX2_countWords_18 : decode cX2_countWords 18 = .ok (.bipush 95, 2) := by decide +kernel
theorem dX2_countWords_20 : decode cX2_countWords 20 = .ok (.if_icmp .ne 6, 3) := by decide +kernel
theorem dX2_countWords_23 : decode cX2_countWords 23 = .ok (.iinc 1 1, 3) := by decide +kernel
theorem dX2_countWords_26 : decode cX2_countWords 26 = .ok (.iinc 2 1, 3) := by decide +kernel
theorem dX2_countWords_29 : decode cX2_countWords 29 = .ok (.goto (-25), 3) := by decide +kernel
theorem dX2_countWords_32 : decode cX2_countWords 32 = .ok (.iload_n 1, 1) := by decide +kernel
theorem dX2_countWords_33 : decode cX2_countWords 33 = .ok (.ireturn, 1) := by decide +kernel
theorem dX2_addWordsTo_0 : decode cX2_addWordsTo 0 = .ok (.aload_n 1, 1) := by decide +kernel
theorem dX2_addWordsTo_1 : decode cX2_addWordsTo 1 = .ok (.invokevirtual 25, 3) := by decide +kernel
theorem dX2_addWordsTo_4 : decode cX2_addWordsTo 4 = .ok (.iconst 0, 1) := by decide +kernel
theorem dX2_addWordsTo_5 : decode cX2_addWordsTo 5 = .ok (.istore_n 2, 1) := by decide +kernel
theorem dX2_addWordsTo_6 : decode cX2_addWordsTo 6 = .ok (.iload_n 2, 1) := by decide +kernel
theorem dX2_addWordsTo_7 : decode cX2_addWordsTo 7 = .ok (.aload_n 0, 1) := by decide +kernel
theorem dX2_addWordsTo_8 : decode cX2_addWordsTo 8 = .ok (.getfield 15, 3) := by decide +kernel
theorem dX2_addWordsTo_11 : decode cX2_addWordsTo 11 = .ok (.if_icmp .ge 37, 3) := by decide +kernel
theorem dX2_addWordsTo_14 : decode cX2_addWordsTo 14 = .ok (.aload_n 0, 1) := by decide +kernel
theorem dX2_addWordsTo_15 : decode cX2_addWordsTo 15 = .ok (.getfield 9, 3) := by decide +kernel
theorem dX2_addWordsTo_18 : decode cX2_addWordsTo 18 = .ok (.iload_n 2, 1) := by decide +kernel
theorem dX2_addWordsTo_19 : decode cX2_addWordsTo 19 = .ok (.caload, 1) := by decide +kernel
theorem dX2_addWordsTo_20 : decode cX2_addWordsTo 20 = .ok (.bipush 95, 2) := by decide +kernel
theorem dX2_addWordsTo_22 : decode cX2_addWordsTo 22 = .ok (.if_icmp .ne 10, 3) := by decide +kernel
theorem dX2_addWordsTo_25 : decode cX2_addWordsTo 25 = .ok (.aload_n 1, 1) := by decide +kernel
theorem dX2_addWordsTo_26 : decode cX2_addWordsTo 26 = .ok (.invokevirtual 25, 3) := by decide +kernel
theorem dX2_addWordsTo_29 : decode cX2_addWordsTo 29 = .ok (.goto 13, 3) := by decide +kernel
theorem dX2_addWordsTo_32 : decode cX2_addWordsTo 32 = .ok (.aload_n 1, 1) := by decide +kernel
theorem dX2_addWordsTo_33 : decode cX2_addWordsTo 33 = .ok (.aload_n 0, 1) := by decide +kernel
theorem dX2_addWordsTo_34 : decode cX2_addWordsTo 34 = .ok (.getfield 9, 3) := by decide +kernel
theorem dX2_addWordsTo_37 : decode cX2_addWordsTo 37 = .ok (.iload_n 2, 1) := by decide +kernel
theorem dX2_addWordsTo_38 : decode cX2_addWordsTo 38 = .ok (.caload, 1) := by decide +kernel
theorem dX2_addWordsTo_39 : decode cX2_addWordsTo 39 = .ok (.invokevirtual 30, 3) := by decide +kernel
theorem dX2_addWordsTo_42 : decode cX2_addWordsTo 42 = .ok (.iinc 2 1, 3) := by decide +kernel
theorem dX2_addWordsTo_45 : decode cX2_addWordsTo 45 = .ok (.goto (-39), 3) := by decide +kernel
theorem dX2_addWordsTo_48 : decode cX2_addWordsTo 48 = .ok (.return_, 1) := by decide +kernel
theorem dX3_init_0 : decode cX3_init 0 = .ok (.aload_n 0, 1) := by decide +kernel
theorem dX3_init_1 : decode cX3_init 1 = .ok (.invokespecial 3, 3) := by decide +kernel
theorem dX3_init_4 : decode cX3_init 4 = .ok (.aload_n 0, 1) := by decide +kernel
theorem dX3_init_5 : decode cX3_init 5 = .ok (.iconst 4, 1) := by decide +kernel
theorem dX3_init_6 : decode cX3_init 6 = .ok (.newarray .int, 2) := by decide +kernel
theorem dX3_init_8 : decode cX3_init 8 = .ok (.dup, 1) := by decide +kernel
theorem dX3_init_9 : decode cX3_init 9 = .ok (.iconst 0, 1) := by decide +kernel
theorem dX3_init_10 : decode cX3_init 10 = .ok (.bipush 80, 2) := by decide +kernel
theorem dX3_init_12 : decode cX3_init 12 = .ok (.iastore, 1) := by decide +kernel
theorem dX3_init_13 : decode cX3_init 13 = .ok (.dup, 1) := by decide +kernel
theorem dX3_init_14 : decode cX3_init 14 = .ok (.iconst 1, 1) := by decide +kernel
theorem dX3_init_15 : decode cX3_init 15 = .ok (.bipush 6, 2) := by decide +kernel
theorem dX3_init_17 : decode cX3_init 17 = .ok (.iastore, 1) := by decide +kernel
theorem dX3_init_18 : decode cX3_init 18 = .ok (.dup, 1) := by decide +kernel
theorem dX3_init_19 : decode cX3_init 19 = .ok (.iconst 2, 1) := by decide +kernel
theorem dX3_init_20 : decode cX3_init 20 = .ok (.bipush 12, 2) := by decide +kernel
theorem dX3_init_22 : decode cX3_init 22 = .ok (.iastore, 1) := by decide +kernel
theorem dX3_init_23 : decode cX3_init 23 = .ok (.dup, 1) := by decide +kernel
theorem dX3_init_24 : decode cX3_init 24 = .ok (.iconst 3, 1) := by decide +kernel
theorem dX3_init_25 : decode cX3_init 25 = .ok (.iconst 1, 1) := by decide +kernel
theorem dX3_init_26 : decode cX3_init 26 = .ok (.iastore, 1) := by decide +kernel
theorem dX3_init_27 : decode cX3_init 27 = .ok (.putfield 9, 3) := by decide +kernel
theorem dX3_init_30 : decode cX3_init 30 = .ok (.aload_n 0, 1) := by decide +kernel
theorem dX3_init_31 : decode cX3_init 31 = .ok (.bipush 8, 2) := by decide +kernel
theorem dX3_init_33 : decode cX3_init 33 = .ok (.newarray .int, 2) := by decide +kernel
theorem dX3_init_35 : decode cX3_init 35 = .ok (.dup, 1) := by decide +kernel
theorem dX3_init_36 : decode cX3_init 36 = .ok (.iconst 0, 1) := by decide +kernel
theorem dX3_init_37 : decode cX3_init 37 = .ok (.bipush 8, 2) := by decide +kernel
theorem dX3_init_39 : decode cX3_init 39 = .ok (.iastore, 1) := by decide +kernel
theorem dX3_init_40 : decode cX3_init 40 = .ok (.dup, 1) := by decide +kernel
theorem dX3_init_41 : decode cX3_init 41 = .ok (.iconst 1, 1) := by decide +kernel
theorem dX3_init_42 : decode cX3_init 42 = .ok (.iconst 3, 1) := by decide +kernel
theorem dX3_init_43 : decode cX3_init 43 = .ok (.iastore, 1) := by decide +kernel
theorem dX3_init_44 : decode cX3_init 44 = .ok (.dup, 1) := by decide +kernel
theorem dX3_init_45 : decode cX3_init 45 = .ok (.iconst 2, 1) := by decide +kernel
theorem dX3_init_46 : decode cX3_init 46 = .ok (.iconst 3, 1) := by decide +kernel
theorem dX3_init_47 : decode cX3_init 47 = .ok (.iastore, 1) := by decide +kernel
theorem dX3_init_48 : decode cX3_init 48 = .ok (.dup, 1) := by decide +kernel
theorem dX3_init_49 : decode cX3_init 49 = .ok (.iconst 3, 1) := by decide +kernel
theorem dX3_init_50 : decode cX3_init 50 = .ok (.iconst 3, 1) := by decide +kernel
theorem dX3_init_51 : decode cX3_init 51 = .ok (.iastore, 1) := by decide +kernel
theorem dX3_init_52 : decode cX3_init 52 = .ok (.dup, 1) := by decide +kernel
theorem dX3_init_53 : decode cX3_init 53 = .ok (.iconst 4, 1) := by decide +kernel
theorem dX3_init_54 : decode cX3_init 54 = .ok (.iconst 3, 1) := by decide +kernel
theorem dX3_init_55 : decode cX3_init 55 = .ok (.iastore, 1) := by decide +kernel
theorem dX3_init_56 : decode cX3_init 56 = .ok (.dup, 1) := by decide +kernel
theorem dX3_init_57 : decode cX3_init 57 = .ok (.iconst 5, 1) := by decide +kernel
theorem dX3_init_58 : decode cX3_init 58 = .ok (.iconst 5, 1) := by decide +kernel
theorem dX3_init_59 : decode cX3_init 59 = .ok (.iastore, 1) := by decide +kernel
theorem dX3_init_60 : decode cX3_init 60 = .ok (.dup, 1) := by decide +kernel
theorem dX3_init_61 : decode cX3_init 61 = .ok (.bipush 6, 2) := by decide +kernel
theorem dX3_init_63 : decode cX3_init 63 = .ok (.iconst 3, 1) := by decide +kernel
theorem dX3_init_64 : decode cX3_init 64 = .ok (.iastore, 1) := by decide +kernel
theorem dX3_init_65 : decode cX3_init 65 = .ok (.dup, 1) := by decide +kernel
theorem dX3_init_66 : decode cX3_init 66 = .ok (.bipush 7, 2) := by decide +kernel
theorem dX3_init_68 : decode cX3_init 68 = .ok (.iconst 3, 1) := by decide +kernel
theorem dX3_init_69 : decode cX3_init 69 = .ok (.iastore, 1) := by decide +kernel
theorem dX3_init_70 : decode cX3_init 70 = .ok (.putfield 15, 3) := by decide +kernel
theorem dX3_init_73 : decode cX3_init 73 = .ok (.aload_n 0, 1) := by decide +kernel
theorem dX3_init_74 : decode cX3_init 74 = .ok (.bipush 8, 2) := by decide +kernel
theorem dX3_init_76 : decode cX3_init 76 = .ok (.newarray .int, 2) := by decide +kernel
theorem dX3_init_78 : decode cX3_init 78 = .ok (.dup, 1) := by decide +kernel
theorem dX3_init_79 : decode cX3_init 79 = .ok (.iconst 0, 1) := by decide +kernel
theorem dX3_init_80 : decode cX3_init 80 = .ok (.iconst 0, 1) := by decide +kernel
theorem dX3_init_81 : decode cX3_init 81 = .ok (.iastore, 1) := by decide +kernel
theorem dX3_init_82 : decode cX3_init 82 = .ok (.dup, 1) := by decide +kernel
theorem dX3_init_83 : decode cX3_init 83 = .ok (.iconst 1, 1) := by decide +kernel
theorem dX3_init_84 : decode cX3_init 84 = .ok (.iconst 0, 1) := by decide +kernel
theorem dX3_init_85 : decode cX3_init 85 = .ok (.iastore, 1) := by decide +kernel
theorem dX3_init_86 : decode cX3_init 86 = .ok (.dup, 1) := by decide +kernel
theorem dX3_init_87 : decode cX3_init 87 = .ok (.iconst 2, 1) := by decide +kernel
theorem dX3_init_88 : decode cX3_init 88 = .ok (.iconst 0, 1) := by decide +kernel
theorem dX3_init_89 : decode cX3_init 89 = .ok (.iastore, 1) := by decide +kernel
theorem dX3_init_90 : decode cX3_init 90 = .ok (.dup, 1) := by decide +kernel
theorem dX3_init_91 : decode cX3_init 91 = .ok (.iconst 3, 1) := by decide +kernel
theorem dX3_init_92 : decode cX3_init 92 = .ok (.iconst 0, 1) := by decide +kernel
theorem dX3_init_93 : decode cX3_init 93 = .ok (.iastore, 1) := by decide +kernel
theorem dX3_init_94 : decode cX3_init 94 = .ok (.dup, 1) := by decide +kernel
theorem dX3_init_95 : decode cX3_init 95 = .ok (.iconst 4, 1) := by decide +kernel
theorem dX3_init_96 : decode cX3_init 96 = .ok (.iconst 0, 1) := by decide +kernel
theorem dX3_init_97 : decode cX3_init 97 = .ok (.iastore, 1) := by decide +kernel
theorem dX3_init_98 : decode cX3_init 98 = .ok (.dup, 1) := by decide +kernel
theorem dX3_init_99 : decode cX3_init 99 = .ok (.iconst 5, 1) := by decide +kernel
theorem dX3_init_100 : decode cX3_init 100 = .ok (.iconst 0, 1) := by decide +kernel
theorem dX3_init_101 : decode cX3_init 101 = .ok (.iastore, 1) := by decide +kernel
theorem dX3_init_102 : decode cX3_init 102 = .ok (.dup, 1) := by decide +kernel
theorem dX3_init_103 : decode cX3_init 103 = .ok (.bipush 6, 2) := by decide +kernel
theorem dX3_init_105 : decode cX3_init 105 = .ok (.bipush 60, 2) := by decide +kernel
theorem dX3_init_107 : decode cX3_init 107 = .ok (.iastore, 1) := by decide +kernel
theorem dX3_init_108 : decode cX3_init 108 = .ok (.dup, 1) := by decide +kernel
theorem dX3_init_109 : decode cX3_init 109 = .ok (.bipush 7, 2) := by decide +kernel
theorem dX3_init_111 : decode cX3_init 111 = .ok (.iconst 0, 1) := by decide +kernel
theorem dX3_init_112 : decode cX3_init 112 = .ok (.iastore, 1) := by decide +kernel
theorem dX3_init_113 : decode cX3_init 113 = .ok (.putfield 18, 3) := by decide +kernel
theorem dX3_init_116 : decode cX3_init 116 = .ok (.aload_n 0, 1) := by decide +kernel
theorem dX3_init_117 : decode cX3_init 117 = .ok (.bipush 8, 2) := by decide +kernel
theorem dX3_init_119 : decode cX3_init 119 = .ok (.newarray .int, 2) := by decide +kernel
theorem dX3_init_121 : decode cX3_init 121 = .ok (.dup, 1) := by decide +kernel
theorem dX3_init_122 : decode cX3_init 122 = .ok (.iconst 0, 1) := by decide +kernel
theorem dX3_init_123 : decode cX3_init 123 = .ok (.iconst 0, 1) := by decide +kernel
theorem dX3_init_124 : decode cX3_init 124 = .ok (.iastore, 1) := by decide +kernel
theorem dX3_init_125 : decode cX3_init 125 = .ok (.dup, 1) := by decide +kernel
theorem dX3_init_126 : decode cX3_init 126 = .ok (.iconst 1, 1) := by decide +kernel
theorem dX3_init_127 : decode cX3_init 127 = .ok (.bipush 100, 2) := by decide +kernel
theorem dX3_init_129 : decode cX3_init 129 = .ok (.iastore, 1) := by decide +kernel
theorem dX3_init_130 : decode cX3_init 130 = .ok (.dup, 1) := by decide +kernel
theorem dX3_init_131 : decode cX3_init 131 = .ok (.iconst 2, 1) := by decide +kernel
theorem dX3_init_132 : decode cX3_init 132 = .ok (.bipush 100, 2) := by decide +kernel
theorem dX3_init_134 : decode cX3_init 134 = .ok (.iastore, 1) := by decide +kernel
theorem dX3_init_135 : decode cX3_init 135 = .ok (.dup, 1) := by decide +kernel
theorem dX3_init_136 : decode cX3_init 136 = .ok (.iconst 3, 1) := by decide +kernel
theorem dX3_init_137 : decode cX3_init 137 = .ok (.bipush 50, 2) := by decide +kernel
theorem dX3_init_139 : decode cX3_init 139 = .ok (.iastore, 1) := by decide +kernel
theorem dX3_init_140 : decode cX3_init 140 = .ok (.dup, 1) := by decide +kernel
theorem dX3_init_141 : decode cX3_init 141 = .ok (.iconst 4, 1) := by decide +kernel
theorem dX3_init_142 : decode cX3_init 142 = .ok (.bipush 50, 2) := by decide +kernel
theorem dX3_init_144 : decode cX3_init 144 = .ok (.iastore, 1) := by decide +kernel
theorem dX3_init_145 : decode cX3_init 145 = .ok (.dup, 1) := by decide +kernel
theorem dX3_init_146 : decode cX3_init 146 = .ok (.iconst 5, 1) := by decide +kernel
theorem dX3_init_147 : decode cX3_init 147 = .ok (.bipush 70, 2) := by decide +kernel
theorem dX3_init_149 : decode cX3_init 149 = .ok (.iastore, 1) := by decide +kernel
theorem dX3_init_150 : decode cX3_init 150 = .ok (.dup, 1) := by decide +kernel
theorem dX3_init_151 : decode cX3_init 151 = .ok (.bipush 6, 2) := by decide +kernel
theorem dX3_init_153 : decode cX3_init 153 = .ok (.bipush 60, 2) := by decide +kernel
theorem dX3_init_155 : decode cX3_init 155 = .ok (.iastore, 1) := by decide +kernel
theorem dX3_init_156 : decode cX3_init 156 = .ok (.dup, 1) := by decide +kernel
theorem dX3_init_157 : decode cX3_init 157 = .ok (.bipush 7, 2) := by decide +kernel
theorem dX3_init_159 : decode cX3_init 159 = .ok (.iconst 0, 1) := by decide +kernel
theorem dX3_init_160 : decode cX3_init 160 = .ok (.iastore, 1) := by decide +kernel
theorem dX3_init_161 : decode cX3_init 161 = .ok (.putfield 21, 3) := by decide +kernel
theorem dX3_init_164 : decode cX3_init 164 = .ok (.aload_n 0, 1) := by decide +kernel
theorem dX3_init_165 : decode cX3_init 165 = .ok (.sipush 240, 3) := by decide +kernel
theorem dX3_init_168 : decode cX3_init 168 = .ok (.newarray .char, 2) := by decide +kernel
theorem dX3_init_170 : decode cX3_init 170 = .ok (.putfield 24, 3) := by decide +kernel
theorem dX3_init_173 : decode cX3_init 173 = .ok (.aload_n 0, 1) := by decide +kernel
theorem dX3_init_174 : decode cX3_init 174 = .ok (.bipush 24, 2) := by decide +kernel
theorem dX3_init_176 : decode cX3_init 176 = .ok (.newarray .int, 2) := by decide +kernel
theorem dX3_init_178 : decode cX3_init 178 = .ok (.putfield 28, 3) := by decide +kernel
theorem dX3_init_181 : decode cX3_init 181 = .ok (.aload_n 0, 1) := by decide +kernel
theorem dX3_init_182 : decode cX3_init 182 = .ok (.iconst 0, 1) := by decide +kernel
theorem dX3_init_183 : decode cX3_init 183 = .ok (.putfield 31, 3) := by decide +kernel
theorem dX3_init_186 : decode cX3_init 186 = .ok (.return_, 1) := by decide +kernel
theorem dX3_copyFrom_0 : decode cX3_copyFrom 0 = .ok (.aload_n 1, 1) := by decide +kernel
theorem dX3_copyFrom_1 : decode cX3_copyFrom 1 = .ok (.getfield 9, 3) := by decide +kernel
theorem dX3_copyFrom_4 : decode cX3_copyFrom 4 = .ok (.iconst 0, 1) := by decide +kernel
theorem dX3_copyFrom_5 : decode cX3_copyFrom 5 = .ok (.aload_n 0, 1) := by decide +kernel
theorem dX3_copyFrom_6 : decode cX3_copyFrom 6 = .ok (.getfield 9, 3) := by decide +kernel
theorem dX3_copyFrom_9 : decode cX3_copyFrom 9 = .ok (.iconst 0, 1) := by decide +kernel
theorem dX3_copyFrom_10 : decode cX3_copyFrom 10 = .ok (.iconst 4, 1) := by decide +kernel
theorem dX3_copyFrom_11 : decode cX3_copyFrom 11 = .ok (.invokestatic 35, 3) := by decide +kernel
theorem dX3_copyFrom_14 : decode cX3_copyFrom 14 = .ok (.aload_n 1, 1) := by decide +kernel
theorem dX3_copyFrom_15 : decode cX3_copyFrom 15 = .ok (.getfield 15, 3) := by decide +kernel
theorem dX3_copyFrom_18 : decode cX3_copyFrom 18 = .ok (.iconst 0, 1) := by decide +kernel
theorem dX3_copyFrom_19 : decode cX3_copyFrom 19 = .ok (.aload_n 0, 1) := by decide +kernel
theorem dX3_copyFrom_20 : decode cX3_copyFrom 20 = .ok (.getfield 15, 3) := by decide +kernel
theorem dX3_copyFrom_23 : decode cX3_copyFrom 23 = .ok (.iconst 0, 1) := by decide +kernel
theorem dX3_copyFrom_24 : decode cX3_copyFrom 24 = .ok (.bipush 8, 2) := by decide +kernel
theorem dX3_copyFrom_26 : decode cX3_copyFrom 26 = .ok (.invokestatic 35, 3) := by decide +kernel
theorem dX3_copyFrom_29 : decode cX3_copyFrom 29 = .ok (.aload_n 1, 1) := by decide +kernel
theorem dX3_copyFrom_30 : decode cX3_copyFrom 30 = .ok (.getfield 18, 3) := by decide +kernel
theorem dX3_copyFrom_33 : decode cX3_copyFrom 33 = .ok (.iconst 0, 1) := by decide +kernel
theorem dX3_copyFrom_34 : decode cX3_copyFrom 34 = .ok (.aload_n 0, 1) := by decide +kernel
theorem dX3_copyFrom_35 : decode cX3_copyFrom 35 = .ok (.getfield 18, 3) := by decide +kernel
theorem dX3_copyFrom_38 : decode cX3_copyFrom 38 = .ok (.iconst 0, 1) := by decide +kernel
theorem dX3_copyFrom_39 : decode cX3_copyFrom 39 = .ok (.bipush 8, 2) := by decide +kernel
theorem dX3_copyFrom_41 : decode cX3_copyFrom 41 = .ok (.invokestatic 35, 3) := by decide +kernel
theorem dX3_copyFrom_44 : decode cX3_copyFrom 44 = .ok (.aload_n 1, 1) := by decide +kernel
theorem dX3_copyFrom_45 : decode cX3_copyFrom 45 = .ok (.getfield 21, 3) := by decide +kernel
theorem dX3_copyFrom_48 : decode cX3_copyFrom 48 = .ok (.iconst 0, 1) := by decide +kernel
theorem dX3_copyFrom_49 : decode cX3_copyFrom 49 = .ok (.aload_n 0, 1) := by decide +kernel
theorem dX3_copyFrom_50 : decode cX3_copyFrom 50 = .ok (.getfield 21, 3) := by decide +kernel
theorem dX3_copyFrom_53 : decode cX3_copyFrom 53 = .ok (.iconst 0, 1) := by decide +kernel
theorem dX3_copyFrom_54 : decode cX3_copyFrom 54 = .ok (.bipush 8, 2) := by decide +kernel
theorem dX3_copyFrom_56 : decode cX3_copyFrom 56 = .ok (.invokestatic 35, 3) := by decide +kernel
theorem dX3_copyFrom_59 : decode cX3_copyFrom 59 = .ok (.aload_n 1, 1) := by decide +kernel
theorem dX3_copyFrom_60 : decode cX3_copyFrom 60 = .ok (.getfield 24, 3) := by decide +kernel
theorem dX3_copyFrom_63 : decode cX3_copyFrom 63 = .ok (.iconst 0, 1) := by decide +kernel
theorem dX3_copyFrom_64 : decode cX3_copyFrom 64 = .ok (.aload_n 0, 1) := by decide +kernel
theorem dX3_copyFrom_65 : decode cX3_copyFrom 65 = .ok (.getfield 24, 3) := by decide +kernel
theorem dX3_copyFrom_68 : decode cX3_copyFrom 68 = .ok (.iconst 0, 1) := by decide +kernel
theorem dX3_copyFrom_69 : decode cX3_copyFrom 69 = .ok (.aload_n 1, 1) := by decide +kernel
theorem dX3_copyFrom_70 : decode cX3_copyFrom 70 = .ok (.getfield 31, 3) := by decide +kernel
theorem dX3_copyFrom_73 : decode cX3_copyFrom 73 = .ok (.bipush 10, 2) := by decide +kernel
theorem dX3_copyFrom_75 : decode cX3_copyFrom 75 = .ok (.imul, 1) := by decide +kernel
theorem dX3_copyFrom_76 : decode cX3_copyFrom 76 = .ok (.invokestatic 35, 3) := by decide +kernel
theorem dX3_copyFrom_79 : decode cX3_copyFrom 79 = .ok (.aload_n 1, 1) := by decide +kernel
theorem dX3_copyFrom_80 : decode cX3_copyFrom 80 = .ok (.getfield 28, 3) := by decide +kernel
theorem dX3_copyFrom_83 : decode cX3_copyFrom 83 = .ok (.iconst 0, 1) := by decide +kernel
theorem dX3_copyFrom_84 : decode cX3_copyFrom 84 = .ok (.aload_n 0, 1) := by decide +kernel
theorem dX3_copyFrom_85 : decode cX3_copyFrom 85 = .ok (.getfield 28, 3) := by decide +kernel
theorem dX3_copyFrom_88 : decode cX3_copyFrom 88 = .ok (.iconst 0, 1) := by decide +kernel
theorem dX3_copyFrom_89 : decode cX3_copyFrom 89 = .ok (.aload_n 1, 1) := by decide +kernel
theorem dX3_copyFrom_90 : decode cX3_copyFrom 90 = .ok (.getfield 31, 3) := by decide +kernel
theorem dX3_copyFrom_93 : decode cX3_copyFrom 93 = .ok (.invokestatic 35, 3) := by decide +kernel
theorem dX3_copyFrom_96 : decode cX3_copyFrom 96 = .ok (.aload_n 0, 1) := by decide +kernel
theorem dX3_copyFrom_97 : decode cX3_copyFrom 97 = .ok (.aload_n 1, 1) := by decide +kernel
theorem dX3_copyFrom_98 : decode cX3_copyFrom 98 = .ok (.getfield 31, 3) := by decide +kernel
theorem dX3_copyFrom_101 : decode cX3_copyFrom 101 = .ok (.putfield 31, 3) := by decide +kernel
theorem dX3_copyFrom_104 : decode cX3_copyFrom 104 = .ok (.return_, 1) := by decide +kernel
theorem dX3_beginWord_0 : decode cX3_beginWord 0 = .ok (.aload_n 0, 1) := by decide +kernel
theorem dX3_beginWord_1 : decode cX3_beginWord 1 = .ok (.getfield 31, 3) := by decide +kernel
theorem dX3_beginWord_4 : decode cX3_beginWord 4 = .ok (.bipush 24, 2) := by decide +kernel
theorem dX3_beginWord_6 : decode cX3_beginWord 6 = .ok (.if_icmp .lt 4, 3) := by decide +kernel
theorem dX3_beginWord_9 : decode cX3_beginWord 9 = .ok (.return_, 1) := by decide +kernel
theorem dX3_beginWord_10 : decode cX3_beginWord 10 = .ok (.aload_n 0, 1) := by decide +kernel
theorem dX3_beginWord_11 : decode cX3_beginWord 11 = .ok (.getfield 28, 3) := by decide +kernel
theorem dX3_beginWord_14 : decode cX3_beginWord 14 = .ok (.aload_n 0, 1) := by decide +kernel
theorem dX3_beginWord_15 : decode cX3_beginWord 15 = .ok (.getfield 31, 3) := by decide +kernel
theorem dX3_beginWord_18 : decode cX3_beginWord 18 = .ok (.iconst 0, 1) := by decide +kernel
theorem dX3_beginWord_19 : decode cX3_beginWord 19 = .ok (.iastore, 1) := by decide +kernel
theorem dX3_beginWord_20 : decode cX3_beginWord 20 = .ok (.aload_n 0, 1) := by decide +kernel
theorem dX3_beginWord_21 : decode cX3_beginWord 21 = .ok (.dup, 1) := by decide +kernel
theorem dX3_beginWord_22 : decode cX3_beginWord 22 = .ok (.getfield 31, 3) := by decide +kernel
theorem dX3_beginWord_25 : decode cX3_beginWord 25 = .ok (.iconst 1, 1) := by decide +kernel
theorem dX3_beginWord_26 : decode cX3_beginWord 26 = .ok (.iadd, 1) := by decide +kernel
theorem dX3_beginWord_27 : decode cX3_beginWord 27 = .ok (.putfield 31, 3) := by decide +kernel
theorem dX3_beginWord_30 : decode cX3_beginWord 30 = .ok (.return_, 1) := by decide +kernel
theorem dX3_addSign_0 : decode cX3_addSign 0 = .ok (.aload_n 0, 1) := by decide +kernel
theorem dX3_addSign_1 : decode cX3_addSign 1 = .ok (.getfield 31, 3) := by decide +kernel
theorem dX3_addSign_4 : decode cX3_addSign 4 = .ok (.iconst 1, 1) := by decide +kernel
theorem dX3_addSign_5 : decode cX3_addSign 5 = .ok (.isub, 1) := by decide +kernel
theorem dX3_addSign_6 : decode cX3_addSign 6 = .ok (.istore_n 2, 1) := by decide +kernel
theorem dX3_addSign_7 : decode cX3_addSign 7 = .ok (.iload_n 2, 1) := by decide +kernel
theorem dX3_addSign_8 : decode cX3_addSign 8 = .ok (.ifCond .lt 14, 3) := by decide +kernel
theorem dX3_addSign_11 : decode cX3_addSign 11 = .ok (.aload_n 0, 1) := by decide +kernel
theorem dX3_addSign_12 : decode cX3_addSign 12 = .ok (.getfield 28, 3) := by decide +kernel
theorem dX3_addSign_15 : decode cX3_addSign 15 = .ok (.iload_n 2, 1) := by decide +kernel
theorem dX3_addSign_16 : decode cX3_addSign 16 = .ok (.iaload, 1) := by decide +kernel
theorem dX3_addSign_17 : decode cX3_addSign 17 = .ok (.bipush 10, 2) := by decide +kernel
theorem dX3_addSign_19 : decode cX3_addSign 19 = .ok (.if_icmp .lt 4, 3) := by decide +kernel
theorem dX3_addSign_22 : decode cX3_addSign 22 = .ok (.return_, 1) := by decide +kernel
theorem dX3_addSign_23 : decode cX3_addSign 23 = .ok (.aload_n 0, 1) := by decide +kernel
theorem dX3_addSign_24 : decode cX3_addSign 24 = .ok (.getfield 24, 3) := by decide +kernel
theorem dX3_addSign_27 : decode cX3_addSign 27 = .ok (.iload_n 2, 1) := by decide +kernel
theorem dX3_addSign_28 : decode cX3_addSign 28 = .ok (.bipush 10, 2) := by decide +kernel
theorem dX3_addSign_30 : decode cX3_addSign 30 = .ok (.imul, 1) := by decide +kernel
theorem dX3_addSign_31 : decode cX3_addSign 31 = .ok (.aload_n 0, 1) := by decide +kernel
theorem dX3_addSign_32 : decode cX3_addSign 32 = .ok (.getfield 28, 3) := by decide +kernel
theorem dX3_addSign_35 : decode cX3_addSign 35 = .ok (.iload_n 2, 1) := by decide +kernel
theorem dX3_addSign_36 : decode cX3_addSign 36 = .ok (.iaload, 1) := by decide +kernel
theorem dX3_addSign_37 : decode cX3_addSign 37 = .ok (.iadd, 1) := by decide +kernel
theorem dX3_addSign_38 : decode cX3_addSign 38 = .ok (.iload_n 1, 1) := by decide +kernel
theorem dX3_addSign_39 : decode cX3_addSign 39 = .ok (.castore, 1) := by decide +kernel
theorem dX3_addSign_40 : decode cX3_addSign 40 = .ok (.aload_n 0, 1) := by decide +kernel
theorem dX3_addSign_41 : decode cX3_addSign 41 = .ok (.getfield 28, 3) := by decide +kernel
theorem dX3_addSign_44 : decode cX3_addSign 44 = .ok (.iload_n 2, 1) := by decide +kernel
theorem dX3_addSign_45 : decode cX3_addSign 45 = .ok (.dup2, 1) := by decide +kernel
theorem dX3_addSign_46 : decode cX3_addSign 46 = .ok (.iaload, 1) := by decide +kernel
theorem dX3_addSign_47 : decode cX3_addSign 47 = .ok (.iconst 1, 1) := by decide +kernel
theorem dX3_addSign_48 : decode cX3_addSign 48 = .ok (.iadd, 1) := by decide +kernel
theorem dX3_addSign_49 : decode cX3_addSign 49 = .ok (.iastore, 1) := by decide +kernel
theorem dX3_addSign_50 : decode cX3_addSign 50 = .ok (.return_, 1) := by decide +kernel
theorem dX3_takeOut_0 : decode cX3_takeOut 0 = .ok (.iload_n 1, 1) := by decide +kernel
theorem dX3_takeOut_1 : decode cX3_takeOut 1 = .ok (.iconst 1, 1) := by decide +kernel
theorem dX3_takeOut_2 : decode cX3_takeOut 2 = .ok (.iadd, 1) := by decide +kernel
theorem dX3_takeOut_3 : decode cX3_takeOut 3 = .ok (.istore_n 2, 1) := by decide +kernel
theorem dX3_takeOut_4 : decode cX3_takeOut 4 = .ok (.iload_n 2, 1) := by decide +kernel
theorem dX3_takeOut_5 : decode cX3_takeOut 5 = .ok (.aload_n 0, 1) := by decide +kernel
theorem dX3_takeOut_6 : decode cX3_takeOut 6 = .ok (.getfield 31, 3) := by decide +kernel
theorem dX3_takeOut_9 : decode cX3_takeOut 9 = .ok (.if_icmp .ge 46, 3) := by decide +kernel
theorem dX3_takeOut_12 : decode cX3_takeOut 12 = .ok (.aload_n 0, 1) := by decide +kernel
theorem dX3_takeOut_13 : decode cX3_takeOut 13 = .ok (.getfield 24, 3) := by decide +kernel
theorem dX3_takeOut_16 : decode cX3_takeOut 16 = .ok (.iload_n 2, 1) := by decide +kernel
theorem dX3_takeOut_17 : decode cX3_takeOut 17 = .ok (.bipush 10, 2) := by decide +kernel
theorem dX3_takeOut_19 : decode cX3_takeOut 19 = .ok (.imul, 1) := by decide +kernel
theorem dX3_takeOut_20 : decode cX3_takeOut 20 = .ok (.aload_n 0, 1) := by decide +kernel
theorem dX3_takeOut_21 : decode cX3_takeOut 21 = .ok (.getfield 24, 3) := by decide +kernel
theorem dX3_takeOut_24 : decode cX3_takeOut 24 = .ok (.iload_n 2, 1) := by decide +kernel
theorem dX3_takeOut_25 : decode cX3_takeOut 25 = .ok (.iconst 1, 1) := by decide +kernel
theorem dX3_takeOut_26 : decode cX3_takeOut 26 = .ok (.isub, 1) := by decide +kernel
theorem dX3_takeOut_27 : decode cX3_takeOut 27 = .ok (.bipush 10, 2) := by decide +kernel
theorem dX3_takeOut_29 : decode cX3_takeOut 29 = .ok (.imul, 1) := by decide +kernel
theorem dX3_takeOut_30 : decode cX3_takeOut 30 = .ok (.bipush 10, 2) := by decide +kernel
theorem dX3_takeOut_32 : decode cX3_takeOut 32 = .ok (.invokestatic 35, 3) := by decide +kernel
theorem dX3_takeOut_35 : decode cX3_takeOut 35 = .ok (.aload_n 0, 1) := by decide +kernel
theorem dX3_takeOut_36 : decode cX3_takeOut 36 = .ok (.getfield 28, 3) := by decide +kernel
theorem dX3_takeOut_39 : decode cX3_takeOut 39 = .ok (.iload_n 2, 1) := by decide +kernel
theorem dX3_takeOut_40 : decode cX3_takeOut 40 = .ok (.iconst 1, 1) := by decide +kernel
theorem dX3_takeOut_41 : decode cX3_takeOut 41 = .ok (.isub, 1) := by decide +kernel
theorem dX3_takeOut_42 : decode cX3_takeOut 42 = .ok (.aload_n 0, 1) := by decide +kernel
theorem dX3_takeOut_43 : decode cX3_takeOut 43 = .ok (.getfield 28, 3) := by decide +kernel
theorem dX3_takeOut_46 : decode cX3_takeOut 46 = .ok (.iload_n 2, 1) := by decide +kernel
theorem dX3_takeOut_47 : decode cX3_takeOut 47 = .ok (.iaload, 1) := by decide +kernel
theorem dX3_takeOut_48 : decode cX3_takeOut 48 = .ok (.iastore, 1) := by decide +kernel
theorem dX3_takeOut_49 : decode cX3_takeOut 49 = .ok (.iinc 2 1, 3) := by decide +kernel
theorem dX3_takeOut_52 : decode cX3_takeOut 52 = .ok (.goto (-48), 3) := by decide +kernel
theorem dX3_takeOut_55 : decode cX3_takeOut 55 = .ok (.aload_n 0, 1) := by decide +kernel
theorem dX3_takeOut_56 : decode cX3_takeOut 56 = .ok (.dup, 1) := by decide +kernel
theorem dX3_takeOut_57 : decode cX3_takeOut 57 = .ok (.getfield 31, 3) := by decide +kernel
theorem dX3_takeOut_60 : decode cX3_takeOut 60 = .ok (.iconst 1, 1) := by decide +kernel
theorem dX3_takeOut_61 : decode cX3_takeOut 61 = .ok (.isub, 1) := by decide +kernel
theorem dX3_takeOut_62 : decode cX3_takeOut 62 = .ok (.putfield 31, 3) := by decide +kernel
theorem dX3_takeOut_65 : decode cX3_takeOut 65 = .ok (.return_, 1) := by decide +kernel
theorem dX3_exchange_0 : decode cX3_exchange 0 = .ok (.iconst 0, 1) := by decide +kernel
theorem dX3_exchange_1 : decode cX3_exchange 1 = .ok (.istore_n 3, 1) := by decide +kernel
theorem dX3_exchange_2 : decode cX3_exchange 2 = .ok (.iload_n 3, 1) := by decide +kernel
theorem dX3_exchange_3 : decode cX3_exchange 3 = .ok (.bipush 10, 2) := by decide +kernel
theorem dX3_exchange_5 : decode cX3_exchange 5 = .ok (.if_icmp .ge 57, 3) := by decide +kernel
theorem dX3_exchange_8 : decode cX3_exchange 8 = .ok (.aload_n 0, 1) := by decide +kernel
theorem dX3_exchange_9 : decode cX3_exchange 9 = .ok (.getfield 24, 3) := by decide +kernel
theorem dX3_exchange_12 : decode cX3_exchange 12 = .ok (.iload_n 1, 1) := by decide +kernel
theorem dX3_exchange_13 : decode cX3_exchange 13 = .ok (.bipush 10, 2) := by decide +kernel
theorem dX3_exchange_15 : decode cX3_exchange 15 = .ok (.imul, 1) := by decide +kernel
theorem dX3_exchange_16 : decode cX3_exchange 16 = .ok (.iload_n 3, 1) := by decide +kernel
theorem dX3_exchange_17 : decode cX3_exchange 17 = .ok (.iadd, 1) := by decide +kernel
theorem dX3_exchange_18 : decode cX3_exchange 18 = .ok (.caload, 1) := by decide +kernel
theorem dX3_exchange_19 : decode cX3_exchange 19 = .ok (.istore 4, 2) := by decide +kernel
theorem dX3_exchange_21 : decode cX3_exchange 21 = .ok (.aload_n 0, 1) := by decide +kernel
theorem dX3_exchange_22 : decode cX3_exchange 22 = .ok (.getfield 24, 3) := by decide +kernel
theorem dX3_exchange_25 : decode cX3_exchange 25 = .ok (.iload_n 1, 1) := by decide +kernel
theorem dX3_exchange_26 : decode cX3_exchange 26 = .ok (.bipush 10, 2) := by decide +kernel
theorem dX3_exchange_28 : decode cX3_exchange 28 = .ok (.imul, 1) := by decide +kernel
theorem dX3_exchange_29 : decode cX3_exchange 29 = .ok (.iload_n 3, 1) := by decide +kernel
theorem dX3_exchange_30 : decode cX3_exchange 30 = .ok (.iadd, 1) := by decide +kernel
theorem dX3_exchange_31 : decode cX3_exchange 31 = .ok (.aload_n 0, 1) := by decide +kernel
theorem dX3_exchange_32 : decode cX3_exchange 32 = .ok (.getfield 24, 3) := by decide +kernel
theorem dX3_exchange_35 : decode cX3_exchange 35 = .ok (.iload_n 2, 1) := by decide +kernel
theorem dX3_exchange_36 : decode cX3_exchange 36 = .ok (.bipush 10, 2) := by decide +kernel
theorem dX3_exchange_38 : decode cX3_exchange 38 = .ok (.imul, 1) := by decide +kernel
theorem dX3_exchange_39 : decode cX3_exchange 39 = .ok (.iload_n 3, 1) := by decide +kernel
theorem dX3_exchange_40 : decode cX3_exchange 40 = .ok (.iadd, 1) := by decide +kernel
theorem dX3_exchange_41 : decode cX3_exchange 41 = .ok (.caload, 1) := by decide +kernel
theorem dX3_exchange_42 : decode cX3_exchange 42 = .ok (.castore, 1) := by decide +kernel
theorem dX3_exchange_43 : decode cX3_exchange 43 = .ok (.aload_n 0, 1) := by decide +kernel
theorem dX3_exchange_44 : decode cX3_exchange 44 = .ok (.getfield 24, 3) := by decide +kernel
theorem dX3_exchange_47 : decode cX3_exchange 47 = .ok (.iload_n 2, 1) := by decide +kernel
theorem dX3_exchange_48 : decode cX3_exchange 48 = .ok (.bipush 10, 2) := by decide +kernel
theorem dX3_exchange_50 : decode cX3_exchange 50 = .ok (.imul, 1) := by decide +kernel
theorem dX3_exchange_51 : decode cX3_exchange 51 = .ok (.iload_n 3, 1) := by decide +kernel
theorem dX3_exchange_52 : decode cX3_exchange 52 = .ok (.iadd, 1) := by decide +kernel
theorem dX3_exchange_53 : decode cX3_exchange 53 = .ok (.iload 4, 2) := by decide +kernel
theorem dX3_exchange_55 : decode cX3_exchange 55 = .ok (.castore, 1) := by decide +kernel
theorem dX3_exchange_56 : decode cX3_exchange 56 = .ok (.iinc 3 1, 3) := by decide +kernel
theorem dX3_exchange_59 : decode cX3_exchange 59 = .ok (.goto (-57), 3) := by decide +kernel
theorem dX3_exchange_62 : decode cX3_exchange 62 = .ok (.aload_n 0, 1) := by decide +kernel
theorem dX3_exchange_63 : decode cX3_exchange 63 = .ok (.getfield 28, 3) := by decide +kernel
theorem dX3_exchange_66 : decode cX3_exchange 66 = .ok (.iload_n 1, 1) := by decide +kernel
theorem dX3_exchange_67 : decode cX3_exchange 67 = .ok (.iaload, 1) := by decide +kernel
theorem dX3_exchange_68 : decode cX3_exchange 68 = .ok (.istore_n 3, 1) := by decide +kernel
theorem dX3_exchange_69 : decode cX3_exchange 69 = .ok (.aload_n 0, 1) := by decide +kernel
theorem dX3_exchange_70 : decode cX3_exchange 70 = .ok (.getfield 28, 3) := by decide +kernel
theorem dX3_exchange_73 : decode cX3_exchange 73 = .ok (.iload_n 1, 1) := by decide +kernel
theorem dX3_exchange_74 : decode cX3_exchange 74 = .ok (.aload_n 0, 1) := by decide +kernel
theorem dX3_exchange_75 : decode cX3_exchange 75 = .ok (.getfield 28, 3) := by decide +kernel
theorem dX3_exchange_78 : decode cX3_exchange 78 = .ok (.iload_n 2, 1) := by decide +kernel
theorem dX3_exchange_79 : decode cX3_exchange 79 = .ok (.iaload, 1) := by decide +kernel
theorem dX3_exchange_80 : decode cX3_exchange 80 = .ok (.iastore, 1) := by decide +kernel
theorem dX3_exchange_81 : decode cX3_exchange 81 = .ok (.aload_n 0, 1) := by decide +kernel
theorem dX3_exchange_82 : decode cX3_exchange 82 = .ok (.getfield 28, 3) := by decide +kernel
theorem dX3_exchange_85 : decode cX3_exchange 85 = .ok (.iload_n 2, 1) := by decide +kernel
theorem dX3_exchange_86 : decode cX3_exchange 86 = .ok (.iload_n 3, 1) := by decide +kernel
theorem dX3_exchange_87 : decode cX3_exchange 87 = .ok (.iastore, 1) := by decide +kernel
theorem dX3_exchange_88 : decode cX3_exchange 88 = .ok (.return_, 1) := by decide +kernel
theorem dX3_signAt_0 : decode cX3_signAt 0 = .ok (.aload_n 0, 1) := by decide +kernel
theorem dX3_signAt_1 : decode cX3_signAt 1 = .ok (.getfield 24, 3) := by decide +kernel
theorem dX3_signAt_4 : decode cX3_signAt 4 = .ok (.iload_n 1, 1) := by decide +kernel
theorem dX3_signAt_5 : decode cX3_signAt 5 = .ok (.bipush 10, 2) := by decide +kernel
theorem dX3_signAt_7 : decode cX3_signAt 7 = .ok (.imul, 1) := by decide +kernel
theorem dX3_signAt_8 : decode cX3_signAt 8 = .ok (.iload_n 2, 1) := by decide +kernel
theorem dX3_signAt_9 : decode cX3_signAt 9 = .ok (.iadd, 1) := by decide +kernel
theorem dX3_signAt_10 : decode cX3_signAt 10 = .ok (.caload, 1) := by decide +kernel
theorem dX3_signAt_11 : decode cX3_signAt 11 = .ok (.ireturn, 1) := by decide +kernel
theorem dX3_sortAt_0 : decode cX3_sortAt 0 = .ok (.aload_n 0, 1) := by decide +kernel
theorem dX3_sortAt_1 : decode cX3_sortAt 1 = .ok (.iload_n 1, 1) := by decide +kernel
theorem dX3_sortAt_2 : decode cX3_sortAt 2 = .ok (.iload_n 2, 1) := by decide +kernel
