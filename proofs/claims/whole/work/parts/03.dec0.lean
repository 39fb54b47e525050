theorem dX0_init_0 : decode cX0_init 0 = .ok (.aload_n 0, 1) := by decide +kernel
theorem dX0_init_1 : decode cX0_init 1 = .ok (.aload_n 1, 1) := by decide +kernel
theorem dX0_init_2 : decode cX0_init 2 = .ok (.getfield 3, 3) := by decide +kernel
theorem dX0_init_5 : decode cX0_init 5 = .ok (.aload_n 1, 1) := by decide +kernel
theorem dX0_init_6 : decode cX0_init 6 = .ok (.getfield 9, 3) := by decide +kernel
theorem dX0_init_9 : decode cX0_init 9 = .ok (.iload_n 3, 1) := by decide +kernel
theorem dX0_init_10 : decode cX0_init 10 = .ok (.iload 4, 2) := by decide +kernel
theorem dX0_init_12 : decode cX0_init 12 = .ok (.invokespecial 12, 3) := by decide +kernel
theorem dX0_init_15 : decode cX0_init 15 = .ok (.aload_n 0, 1) := by decide +kernel
theorem dX0_init_16 : decode cX0_init 16 = .ok (.iload_n 2, 1) := by decide +kernel
theorem dX0_init_17 : decode cX0_init 17 = .ok (.putfield 18, 3) := by decide +kernel
theorem dX0_init_20 : decode cX0_init 20 = .ok (.aload_n 0, 1) := by decide +kernel
theorem dX0_init_21 : decode cX0_init 21 = .ok (.aload 5, 2) := by decide +kernel
theorem dX0_init_23 : decode cX0_init 23 = .ok (.putfield 24, 3) := by decide +kernel
theorem dX0_init_26 : decode cX0_init 26 = .ok (.return_, 1) := by decide +kernel
theorem dX0_isRequest_0 : decode cX0_isRequest 0 = .ok (.iconst 0, 1) := by decide +kernel
theorem dX0_isRequest_1 : decode cX0_isRequest 1 = .ok (.ireturn, 1) := by decide +kernel
theorem dX0_isNo_0 : decode cX0_isNo 0 = .ok (.aload_n 0, 1) := by decide +kernel
theorem dX0_isNo_1 : decode cX0_isNo 1 = .ok (.getfield 18, 3) := by decide +kernel
theorem dX0_isNo_4 : decode cX0_isNo 4 = .ok (.ireturn, 1) := by decide +kernel
theorem dX0_subjectMark_0 : decode cX0_subjectMark 0 = .ok (.iconst 0, 1) := by decide +kernel
theorem dX0_subjectMark_1 : decode cX0_subjectMark 1 = .ok (.ireturn, 1) := by decide +kernel
theorem dX1_init_0 : decode cX1_init 0 = .ok (.aload_n 0, 1) := by decide +kernel
theorem dX1_init_1 : decode cX1_init 1 = .ok (.invokespecial 1, 3) := by decide +kernel
theorem dX1_init_4 : decode cX1_init 4 = .ok (.aload_n 0, 1) := by decide +kernel
theorem dX1_init_5 : decode cX1_init 5 = .ok (.iload_n 1, 1) := by decide +kernel
theorem dX1_init_6 : decode cX1_init 6 = .ok (.putfield 7, 3) := by decide +kernel
theorem dX1_init_9 : decode cX1_init 9 = .ok (.aload_n 0, 1) := by decide +kernel
theorem dX1_init_10 : decode cX1_init 10 = .ok (.iload_n 2, 1) := by decide +kernel
theorem dX1_init_11 : decode cX1_init 11 = .ok (.putfield 13, 3) := by decide +kernel
theorem dX1_init_14 : decode cX1_init 14 = .ok (.aload_n 0, 1) := by decide +kernel
theorem dX1_init_15 : decode cX1_init 15 = .ok (.aload_n 3, 1) := by decide +kernel
theorem dX1_init_16 : decode cX1_init 16 = .ok (.putfield 16, 3) := by decide +kernel
theorem dX1_init_19 : decode cX1_init 19 = .ok (.aload_n 0, 1) := by decide +kernel
theorem dX1_init_20 : decode cX1_init 20 = .ok (.iload 4, 2) := by decide +kernel
theorem dX1_init_22 : decode cX1_init 22 = .ok (.putfield 20, 3) := by decide +kernel
theorem dX1_init_25 : decode cX1_init 25 = .ok (.aload_n 0, 1) := by decide +kernel
theorem dX1_init_26 : decode cX1_init 26 = .ok (.iload 5, 2) := by decide +kernel
theorem dX1_init_28 : decode cX1_init 28 = .ok (.putfield 23, 3) := by decide +kernel
theorem dX1_init_31 : decode cX1_init 31 = .ok (.aload_n 0, 1) := by decide +kernel
theorem dX1_init_32 : decode cX1_init 32 = .ok (.iload 6, 2) := by decide +kernel
theorem dX1_init_34 : decode cX1_init 34 = .ok (.putfield 27, 3) := by decide +kernel
theorem dX1_init_37 : decode cX1_init 37 = .ok (.return_, 1) := by decide +kernel
theorem dX1_fact_0 : decode cX1_fact 0 = .ok (.iload_n 1, 1) := by decide +kernel
theorem dX1_fact_1 : decode cX1_fact 1 = .ok (.tableswitch 95 0 6 #[43, 48, 53, 61, 69, 77, 82], 43) := by decide +kernel
theorem dX1_fact_44 : decode cX1_fact 44 = .ok (.aload_n 0, 1) := by decide +kernel
theorem dX1_fact_45 : decode cX1_fact 45 = .ok (.getfield 7, 3) := by decide +kernel
theorem dX1_fact_48 : decode cX1_fact 48 = .ok (.ireturn, 1) := by decide +kernel
theorem dX1_fact_49 : decode cX1_fact 49 = .ok (.aload_n 0, 1) := by decide +kernel
theorem dX1_fact_50 : decode cX1_fact 50 = .ok (.getfield 13, 3) := by decide +kernel
theorem dX1_fact_53 : decode cX1_fact 53 = .ok (.ireturn, 1) := by decide +kernel
theorem dX1_fact_54 : decode cX1_fact 54 = .ok (.aload_n 0, 1) := by decide +kernel
theorem dX1_fact_55 : decode cX1_fact 55 = .ok (.getfield 16, 3) := by decide +kernel
theorem dX1_fact_58 : decode cX1_fact 58 = .ok (.getfield 30, 3) := by decide +kernel
theorem dX1_fact_61 : decode cX1_fact 61 = .ok (.ireturn, 1) := by decide +kernel
theorem dX1_fact_62 : decode cX1_fact 62 = .ok (.aload_n 0, 1) := by decide +kernel
theorem dX1_fact_63 : decode cX1_fact 63 = .ok (.getfield 16, 3) := by decide +kernel
theorem dX1_fact_66 : decode cX1_fact 66 = .ok (.getfield 35, 3) := by decide +kernel
theorem dX1_fact_69 : decode cX1_fact 69 = .ok (.ireturn, 1) := by decide +kernel
theorem dX1_fact_70 : decode cX1_fact 70 = .ok (.aload_n 0, 1) := by decide +kernel
theorem dX1_fact_71 : decode cX1_fact 71 = .ok (.getfield 16, 3) := by decide +kernel
theorem dX1_fact_74 : decode cX1_fact 74 = .ok (.getfield 38, 3) := by decide +kernel
theorem dX1_fact_77 : decode cX1_fact 77 = .ok (.ireturn, 1) := by decide +kernel
theorem dX1_fact_78 : decode cX1_fact 78 = .ok (.aload_n 0, 1) := by decide +kernel
theorem dX1_fact_79 : decode cX1_fact 79 = .ok (.getfield 20, 3) := by decide +kernel
theorem dX1_fact_82 : decode cX1_fact 82 = .ok (.ireturn, 1) := by decide +kernel
theorem dX1_fact_83 : decode cX1_fact 83 = .ok (.aload_n 0, 1) := by decide +kernel
theorem dX1_fact_84 : decode cX1_fact 84 = .ok (.getfield 23, 3) := by decide +kernel
theorem dX1_fact_87 : decode cX1_fact 87 = .ok (.ifCond .eq 7, 3) := by decide +kernel
theorem dX1_fact_90 : decode cX1_fact 90 = .ok (.iconst 1, 1) := by decide +kernel
theorem dX1_fact_91 : decode cX1_fact 91 = .ok (.goto 4, 3) := by decide +kernel
theorem dX1_fact_94 : decode cX1_fact 94 = .ok (.iconst 0, 1) := by decide +kernel
theorem dX1_fact_95 : decode cX1_fact 95 = .ok (.ireturn, 1) := by decide +kernel
theorem dX1_fact_96 : decode cX1_fact 96 = .ok (.aload_n 0, 1) := by decide +kernel
theorem dX1_fact_97 : decode cX1_fact 97 = .ok (.getfield 27, 3) := by decide +kernel
theorem dX1_fact_100 : decode cX1_fact 100 = .ok (.ireturn, 1) := by decide +kernel
theorem dX2_init_0 : decode cX2_init 0 = .ok (.aload_n 0, 1) := by decide +kernel
theorem dX2_init_1 : decode cX2_init 1 = .ok (.invokespecial 1, 3) := by decide +kernel
theorem dX2_init_4 : decode cX2_init 4 = .ok (.aload_n 0, 1) := by decide +kernel
theorem dX2_init_5 : decode cX2_init 5 = .ok (.iload_n 1, 1) := by decide +kernel
theorem dX2_init_6 : decode cX2_init 6 = .ok (.putfield 7, 3) := by decide +kernel
theorem dX2_init_9 : decode cX2_init 9 = .ok (.aload_n 0, 1) := by decide +kernel
theorem dX2_init_10 : decode cX2_init 10 = .ok (.iload_n 2, 1) := by decide +kernel
theorem dX2_init_11 : decode cX2_init 11 = .ok (.putfield 13, 3) := by decide +kernel
theorem dX2_init_14 : decode cX2_init 14 = .ok (.aload_n 0, 1) := by decide +kernel
theorem dX2_init_15 : decode cX2_init 15 = .ok (.iload_n 3, 1) := by decide +kernel
theorem dX2_init_16 : decode cX2_init 16 = .ok (.putfield 16, 3) := by decide +kernel
theorem dX2_init_19 : decode cX2_init 19 = .ok (.return_, 1) := by decide +kernel
theorem dX2_isLike_0 : decode cX2_isLike 0 = .ok (.aload_n 0, 1) := by decide +kernel
theorem dX2_isLike_1 : decode cX2_isLike 1 = .ok (.getfield 7, 3) := by decide +kernel
theorem dX2_isLike_4 : decode cX2_isLike 4 = .ok (.aload_n 1, 1) := by decide +kernel
theorem dX2_isLike_5 : decode cX2_isLike 5 = .ok (.getfield 7, 3) := by decide +kernel
theorem dX2_isLike_8 : decode cX2_isLike 8 = .ok (.if_icmp .ne 29, 3) := by decide +kernel
theorem dX2_isLike_11 : decode cX2_isLike 11 = .ok (.aload_n 0, 1) := by decide +kernel
theorem dX2_isLike_12 : decode cX2_isLike 12 = .ok (.getfield 13, 3) := by decide +kernel
theorem dX2_isLike_15 : decode cX2_isLike 15 = .ok (.aload_n 1, 1) := by decide +kernel
theorem dX2_isLike_16 : decode cX2_isLike 16 = .ok (.getfield 13, 3) := by decide +kernel
theorem dX2_isLike_19 : decode cX2_isLike 19 = .ok (.if_icmp .ne 18, 3) := by decide +kernel
theorem dX2_isLike_22 : decode cX2_isLike 22 = .ok (.aload_n 0, 1) := by decide +kernel
theorem dX2_isLike_23 : decode cX2_isLike 23 = .ok (.getfield 16, 3) := by decide +kernel
theorem dX2_isLike_26 : decode cX2_isLike 26 = .ok (.aload_n 1, 1) := by decide +kernel
theorem dX2_isLike_27 : decode cX2_isLike 27 = .ok (.getfield 16, 3) := by decide +kernel
theorem dX2_isLike_30 : decode cX2_isLike 30 = .ok (.if_icmp .ne 7, 3) := by decide +kernel
theorem dX2_isLike_33 : decode cX2_isLike 33 = .ok (.iconst 1, 1) := by decide +kernel
theorem dX2_isLike_34 : decode cX2_isLike 34 = .ok (.goto 4, 3) := by decide +kernel
theorem dX2_isLike_37 : decode cX2_isLike 37 = .ok (.iconst 0, 1) := by decide +kernel
theorem dX2_isLike_38 : decode cX2_isLike 38 = .ok (.ireturn, 1) := by decide +kernel
theorem dX3_init_0 : decode cX3_init 0 = .ok (.aload_n 0, 1) := by decide +kernel
theorem dX3_init_1 : decode cX3_init 1 = .ok (.invokespecial 3, 3) := by decide +kernel
theorem dX3_init_4 : decode cX3_init 4 = .ok (.aload_n 0, 1) := by decide +kernel
theorem dX3_init_5 : decode cX3_init 5 = .ok (.new 9, 3) := by decide +kernel
theorem dX3_init_8 : decode cX3_init 8 = .ok (.dup, 1) := by decide +kernel
theorem dX3_init_9 : decode cX3_init 9 = .ok (.invokespecial 11, 3) := by decide +kernel
theorem dX3_init_12 : decode cX3_init 12 = .ok (.putfield 12, 3) := by decide +kernel
theorem dX3_init_15 : decode cX3_init 15 = .ok (.return_, 1) := by decide +kernel
theorem dX3_launch_0 : decode cX3_launch 0 = .ok (.aload_n 0, 1) := by decide +kernel
theorem dX3_launch_1 : decode cX3_launch 1 = .ok (.getfield 12, 3) := by decide +kernel
theorem dX3_launch_4 : decode cX3_launch 4 = .ok (.invokeinterface 18 1, 5) := by decide +kernel
theorem dX3_launch_9 : decode cX3_launch 9 = .ok (.bipush 30, 2) := by decide +kernel
theorem dX3_launch_11 : decode cX3_launch 11 = .ok (.if_icmp .ge 14, 3) := by decide +kernel
theorem dX3_launch_14 : decode cX3_launch 14 = .ok (.aload_n 0, 1) := by decide +kernel
theorem dX3_launch_15 : decode cX3_launch 15 = .ok (.getfield 12, 3) := by decide +kernel
theorem dX3_launch_18 : decode cX3_launch 18 = .ok (.aload_n 1, 1) := by decide +kernel
theorem dX3_launch_19 : decode cX3_launch 19 = .ok (.invokeinterface 24 2, 5) := by decide +kernel
theorem dX3_launch_24 : decode cX3_launch 24 = .ok (.pop, 1) := by decide +kernel
theorem dX3_launch_25 : decode cX3_launch 25 = .ok (.return_, 1) := by decide +kernel
theorem dX4_init_0 : decode cX4_init 0 = .ok (.aload_n 0, 1) := by decide +kernel
theorem dX4_init_1 : decode cX4_init 1 = .ok (.invokespecial 1, 3) := by decide +kernel
theorem dX4_init_4 : decode cX4_init 4 = .ok (.aload_n 0, 1) := by decide +kernel
theorem dX4_init_5 : decode cX4_init 5 = .ok (.aload_n 1, 1) := by decide +kernel
theorem dX4_init_6 : decode cX4_init 6 = .ok (.putfield 7, 3) := by decide +kernel
theorem dX4_init_9 : decode cX4_init 9 = .ok (.aload_n 0, 1) := by decide +kernel
theorem dX4_init_10 : decode cX4_init 10 = .ok (.iload_n 2, 1) := by decide +kernel
theorem dX4_init_11 : decode cX4_init 11 = .ok (.putfield 13, 3) := by decide +kernel
theorem dX4_init_14 : decode cX4_init 14 = .ok (.aload_n 0, 1) := by decide +kernel
theorem dX4_init_15 : decode cX4_init 15 = .ok (.iload_n 3, 1) := by decide +kernel
theorem dX4_init_16 : decode cX4_init 16 = .ok (.putfield 17, 3) := by decide +kernel
theorem dX4_init_19 : decode cX4_init 19 = .ok (.return_, 1) := by decide +kernel
theorem dX5_init_0 : decode cX5_init 0 = .ok (.aload_n 0, 1) := by decide +kernel
theorem dX5_init_1 : decode cX5_init 1 = .ok (.invokespecial 1, 3) := by decide +kernel
theorem dX5_init_4 : decode cX5_init 4 = .ok (.aload_n 0, 1) := by decide +kernel
theorem dX5_init_5 : decode cX5_init 5 = .ok (.iload_n 1, 1) := by decide +kernel
theorem dX5_init_6 : decode cX5_init 6 = .ok (.putfield 7, 3) := by decide +kernel
theorem dX5_init_9 : decode cX5_init 9 = .ok (.aload_n 0, 1) := by decide +kernel
theorem dX5_init_10 : decode cX5_init 10 = .ok (.iload_n 2, 1) := by decide +kernel
theorem dX5_init_11 : decode cX5_init 11 = .ok (.putfield 13, 3) := by decide +kernel
theorem dX5_init_14 : decode cX5_init 14 = .ok (.aload_n 0, 1) := by decide +kernel
theorem dX5_init_15 : decode cX5_init 15 = .ok (.iload_n 3, 1) := by decide +kernel
theorem dX5_init_16 : decode cX5_init 16 = .ok (.putfield 16, 3) := by decide +kernel
theorem dX5_init_19 : decode cX5_init 19 = .ok (.aload_n 0, 1) := by decide +kernel
theorem dX5_init_20 : decode cX5_init 20 = .ok (.iload 4, 2) := by decide +kernel
theorem dX5_init_22 : decode cX5_init 22 = .ok (.putfield 19, 3) := by decide +kernel
theorem dX5_init_25 : decode cX5_init 25 = .ok (.return_, 1) := by decide +kernel
theorem dX5_fact_0 : decode cX5_fact 0 = .ok (.iload_n 1, 1) := by decide +kernel
theorem dX5_fact_1 : decode cX5_fact 1 = .ok (.tableswitch 85 0 5 #[39, 52, 57, 62, 75, 80], 39) := by decide +kernel
theorem dX5_fact_40 : decode cX5_fact 40 = .ok (.aload_n 0, 1) := by decide +kernel
theorem dX5_fact_41 : decode cX5_fact 41 = .ok (.invokevirtual 22, 3) := by decide +kernel
theorem dX5_fact_44 : decode cX5_fact 44 = .ok (.ifCond .eq 7, 3) := by decide +kernel
theorem dX5_fact_47 : decode cX5_fact 47 = .ok (.iconst 1, 1) := by decide +kernel
theorem dX5_fact_48 : decode cX5_fact 48 = .ok (.goto 4, 3) := by decide +kernel
theorem dX5_fact_51 : decode cX5_fact 51 = .ok (.iconst 0, 1) := by decide +kernel
theorem dX5_fact_52 : decode cX5_fact 52 = .ok (.ireturn, 1) := by decide +kernel
theorem dX5_fact_53 : decode cX5_fact 53 = .ok (.aload_n 0, 1) := by decide +kernel
theorem dX5_fact_54 : decode cX5_fact 54 = .ok (.getfield 7, 3) := by decide +kernel
theorem dX5_fact_57 : decode cX5_fact 57 = .ok (.ireturn, 1) := by decide +kernel
theorem dX5_fact_58 : decode cX5_fact 58 = .ok (.aload_n 0, 1) := by decide +kernel
theorem dX5_fact_59 : decode cX5_fact 59 = .ok (.getfield 13, 3) := by decide +kernel
theorem dX5_fact_62 : decode cX5_fact 62 = .ok (.ireturn, 1) := by decide +kernel
theorem dX5_fact_63 : decode cX5_fact 63 = .ok (.aload_n 0, 1) := by decide +kernel
theorem dX5_fact_64 : decode cX5_fact 64 = .ok (.invokevirtual 26, 3) := by decide +kernel
theorem dX5_fact_67 : decode cX5_fact 67 = .ok (.ifCond .eq 7, 3) := by decide +kernel
theorem dX5_fact_70 : decode cX5_fact 70 = .ok (.iconst 0, 1) := by decide +kernel
theorem dX5_fact_71 : decode cX5_fact 71 = .ok (.goto 4, 3) := by decide +kernel
theorem dX5_fact_74 : decode cX5_fact 74 = .ok (.iconst 1, 1) := by decide +kernel
theorem dX5_fact_75 : decode cX5_fact 75 = .ok (.ireturn, 1) := by decide +kernel
theorem dX5_fact_76 : decode cX5_fact 76 = .ok (.aload_n 0, 1) := by decide +kernel
theorem dX5_fact_77 : decode cX5_fact 77 = .ok (.getfield 16, 3) := by decide +kernel
theorem dX5_fact_80 : decode cX5_fact 80 = .ok (.ireturn, 1) := by decide +kernel
theorem dX5_fact_81 : decode cX5_fact 81 = .ok (.aload_n 0, 1) := by decide +kernel
theorem dX5_fact_82 : decode cX5_fact 82 = .ok (.getfield 19, 3) := by decide +kernel
theorem dX5_fact_85 : decode cX5_fact 85 = .ok (.ireturn, 1) := by decide +kernel
theorem dX5_fact_86 : decode cX5_fact 86 = .ok (.aload_n 0, 1) := by decide +kernel
theorem dX5_fact_87 : decode cX5_fact 87 = .ok (.invokevirtual 29, 3) := by decide +kernel
theorem dX5_fact_90 : decode cX5_fact 90 = .ok (.ireturn, 1) := by decide +kernel
theorem dX6_init_0 : decode cX6_init 0 = .ok (.aload_n 0, 1) := by decide +kernel
theorem dX6_init_1 : decode cX6_init 1 = .ok (.invokespecial 3, 3) := by decide +kernel
theorem dX6_init_4 : decode cX6_init 4 = .ok (.aload_n 0, 1) := by decide +kernel
theorem dX6_init_5 : decode cX6_init 5 = .ok (.iconst 4, 1) := by decide +kernel
theorem dX6_init_6 : decode cX6_init 6 = .ok (.newarray .int, 2) := by decide +kernel
theorem dX6_init_8 : decode cX6_init 8 = .ok (.putfield 9, 3) := by decide +kernel
theorem dX6_init_11 : decode cX6_init 11 = .ok (.aload_n 0, 1) := by decide +kernel
theorem dX6_init_12 : decode cX6_init 12 = .ok (.new 15, 3) := by decide +kernel
theorem dX6_init_15 : decode cX6_init 15 = .ok (.dup, 1) := by decide +kernel
theorem dX6_init_16 : decode cX6_init 16 = .ok (.invokespecial 17, 3) := by decide +kernel
theorem dX6_init_19 : decode cX6_init 19 = .ok (.putfield 18, 3) := by decide +kernel
theorem dX6_init_22 : decode cX6_init 22 = .ok (.aload_n 0, 1) := by decide +kernel
theorem dX6_init_23 : decode cX6_init 23 = .ok (.new 15, 3) := by decide +kernel
theorem dX6_init_26 : decode cX6_init 26 = .ok (.dup, 1) := by decide +kernel
theorem dX6_init_27 : decode cX6_init 27 = .ok (.invokespecial 17, 3) := by decide +kernel
theorem dX6_init_30 : decode cX6_init 30 = .ok (.putfield 22, 3) := by decide +kernel
theorem dX6_init_33 : decode cX6_init 33 = .ok (.aload_n 0, 1) := by decide +kernel
theorem dX6_init_34 : decode cX6_init 34 = .ok (.iload_n 1, 1) := by decide +kernel
theorem dX6_init_35 : decode cX6_init 35 = .ok (.putfield 25, 3) := by decide +kernel
theorem dX6_init_38 : decode cX6_init 38 = .ok (.aload_n 0, 1) := by decide +kernel
theorem dX6_init_39 : decode cX6_init 39 = .ok (.aload_n 2, 1) := by decide +kernel
theorem dX6_init_40 : decode cX6_init 40 = .ok (.putfield 29, 3) := by decide +kernel
theorem dX6_init_43 : decode cX6_init 43 = .ok (.aload_n 0, 1) := by decide +kernel
theorem dX6_init_44 : decode cX6_init 44 = .ok (.invokevirtual 33, 3) := by decide +kernel
theorem dX6_init_47 : decode cX6_init 47 = .ok (.return_, 1) := by decide +kernel
theorem dX6_startAfresh_0 : decode cX6_startAfresh 0 = .ok (.aload_n 0, 1) := by decide +kernel
theorem dX6_startAfresh_1 : decode cX6_startAfresh 1 = .ok (.iconst 0, 1) := by decide +kernel
theorem dX6_startAfresh_2 : decode cX6_startAfresh 2 = .ok (.putfield 36, 3) := by decide +kernel
theorem dX6_startAfresh_5 : decode cX6_startAfresh 5 = .ok (.aload_n 0, 1) := by decide +kernel
theorem dX6_startAfresh_6 : decode cX6_startAfresh 6 = .ok (.iconst 0, 1) := by decide +kernel
theorem dX6_startAfresh_7 : decode cX6_startAfresh 7 = .ok (.putfield 39, 3) := by decide +kernel
theorem dX6_startAfresh_10 : decode cX6_startAfresh 10 = .ok (.aload_n 0, 1) := by decide +kernel
theorem dX6_startAfresh_11 : decode cX6_startAfresh 11 = .ok (.sipush 1000, 3) := by decide +kernel
theorem dX6_startAfresh_14 : decode cX6_startAfresh 14 = .ok (.putfield 42, 3) := by decide +kernel
theorem dX6_startAfresh_17 : decode cX6_startAfresh 17 = .ok (.aload_n 0, 1) := by decide +kernel
theorem dX6_startAfresh_18 : decode cX6_startAfresh 18 = .ok (.aload_n 0, 1) := by decide +kernel
theorem dX6_startAfresh_19 : decode cX6_startAfresh 19 = .ok (.getfield 25, 3) := by decide +kernel
theorem dX6_startAfresh_22 : decode cX6_startAfresh 22 = .ok (.putfield 45, 3) := by decide +kernel
theorem dX6_startAfresh_25 : decode cX6_startAfresh 25 = .ok (.aload_n 0, 1) := by decide +kernel
theorem dX6_startAfresh_26 : decode cX6_startAfresh 26 = .ok (.aload_n 0, 1) := by decide +kernel
theorem dX6_startAfresh_27 : decode cX6_startAfresh 27 = .ok (.getfield 25, 3) := by decide +kernel
theorem dX6_startAfresh_30 : decode cX6_startAfresh 30 = .ok (.iconst 1, 1) := by decide +kernel
theorem dX6_startAfresh_31 : decode cX6_startAfresh 31 = .ok (.iadd, 1) := by decide +kernel
theorem dX6_startAfresh_32 : decode cX6_startAfresh 32 = .ok (.putfield 48, 3) := by decide +kernel
theorem dX6_startAfresh_35 : decode cX6_startAfresh 35 = .ok (.aload_n 0, 1) := by decide +kernel
theorem dX6_startAfresh_36 : decode cX6_startAfresh 36 = .ok (.getfield 18, 3) := by decide +kernel
theorem dX6_startAfresh_39 : decode cX6_startAfresh 39 = .ok (.invokeinterface 51 1, 5) := by decide +kernel
theorem dX6_startAfresh_44 : decode cX6_startAfresh 44 = .ok (.aload_n 0, 1) := by decide +kernel
theorem dX6_startAfresh_45 : decode cX6_startAfresh 45 = .ok (.getfield 22, 3) := by decide +kernel
theorem dX6_startAfresh_48 : decode cX6_startAfresh 48 = .ok (.invokeinterface 51 1, 5) := by decide +kernel
theorem dX6_startAfresh_53 : decode cX6_startAfresh 53 = .ok (.aload_n 0, 1) := by decide +kernel
theorem dX6_startAfresh_54 : decode cX6_startAfresh 54 = .ok (.aconst_null, 1) := by decide +kernel
theorem dX6_startAfresh_55 : decode cX6_startAfresh 55 = .ok (.putfield 56, 3) := by decide +kernel
theorem dX6_startAfresh_58 : decode cX6_startAfresh 58 = .ok (.aload_n 0, 1) := by decide +kernel
theorem dX6_startAfresh_59 : decode cX6_startAfresh 59 = .ok (.iconst 0, 1) := by decide +kernel
theorem dX6_startAfresh_60 : decode cX6_startAfresh 60 = .ok (.putfield 60, 3) := by decide +kernel
theorem dX6_startAfresh_63 : decode cX6_startAfresh 63 = .ok (.aload_n 0, 1) := by decide +kernel
theorem dX6_startAfresh_64 : decode cX6_startAfresh 64 = .ok (.iconst 0, 1) := by decide +kernel
theorem dX6_startAfresh_65 : decode cX6_startAfresh 65 = .ok (.putfield 63, 3) := by decide +kernel
theorem dX6_startAfresh_68 : decode cX6_startAfresh 68 = .ok (.aload_n 0, 1) := by decide +kernel
theorem dX6_startAfresh_69 : decode cX6_startAfresh 69 = .ok (.aconst_null, 1) := by decide +kernel
theorem dX6_startAfresh_70 : decode cX6_startAfresh 70 = .ok (.putfield 66, 3) := by decide +kernel
theorem dX6_startAfresh_73 : decode cX6_startAfresh 73 = .ok (.aload_n 0, 1) := by decide +kernel
theorem dX6_startAfresh_74 : decode cX6_startAfresh 74 = .ok (.iconst 0, 1) := by decide +kernel
theorem dX6_startAfresh_75 : decode cX6_startAfresh 75 = .ok (.putfield 70, 3) := by decide +kernel
theorem dX6_startAfresh_78 : decode cX6_startAfresh 78 = .ok (.return_, 1) := by decide +kernel
theorem dX6_fact_0 : decode cX6_fact 0 = .ok (.iload_n 1, 1) := by decide +kernel
theorem dX6_fact_1 : decode cX6_fact 1 = .ok (.tableswitch 141 0 6 #[43, 62, 81, 97, 113, 123, 136], 43) := by decide +kernel
theorem dX6_fact_44 : decode cX6_fact 44 = .ok (.aload_n 0, 1) := by decide +kernel
theorem dX6_fact_45 : decode cX6_fact 45 = .ok (.getfield 56, 3) := by decide +kernel
theorem dX6_fact_48 : decode cX6_fact 48 = .ok (.ifnonnull 7, 3) := by decide +kernel
theorem dX6_fact_51 : decode cX6_fact 51 = .ok (.iconst (-1), 1) := by decide +kernel
theorem dX6_fact_52 : decode cX6_fact 52 = .ok (.goto 10, 3) := by decide +kernel
theorem dX6_fact_55 : decode cX6_fact 55 = .ok (.aload_n 0, 1) := by decide +kernel
theorem dX6_fact_56 : decode cX6_fact 56 = .ok (.getfield 56, 3) := by decide +kernel
theorem dX6_fact_59 : decode cX6_fact 59 = .ok (.getfield 74, 3) := by decide +kernel
theorem dX6_fact_62 : decode cX6_fact 62 = .ok (.ireturn, 1) := by decide +kernel
theorem dX6_fact_63 : decode cX6_fact 63 = .ok (.aload_n 0, 1) := by decide +kernel
theorem dX6_fact_64 : decode cX6_fact 64 = .ok (.getfield 56, 3) := by decide +kernel
theorem dX6_fact_67 : decode cX6_fact 67 = .ok (.ifnonnull 7, 3) := by decide +kernel
theorem dX6_fact_70 : decode cX6_fact 70 = .ok (.iconst (-1), 1) := by decide +kernel
theorem dX6_fact_71 : decode cX6_fact 71 = .ok (.goto 10, 3) := by decide +kernel
theorem dX6_fact_74 : decode cX6_fact 74 = .ok (.aload_n 0, 1) := by decide +kernel
theorem dX6_fact_75 : decode cX6_fact 75 = .ok (.getfield 56, 3) := by decide +kernel
theorem dX6_fact_78 : decode cX6_fact 78 = .ok (.getfield 79, 3) := by decide +kernel
theorem dX6_fact_81 : decode cX6_fact 81 = .ok (.ireturn, 1) := by decide +kernel
theorem dX6_fact_82 : decode cX6_fact 82 = .ok (.aload_n 0, 1) := by decide +kernel
theorem dX6_fact_83 : decode cX6_fact 83 = .ok (.getfield 56, 3) := by decide +kernel
theorem dX6_fact_86 : decode cX6_fact 86 = .ok (.ifnonnull 7, 3) := by decide +kernel
theorem dX6_fact_89 : decode cX6_fact 89 = .ok (.iconst 0, 1) := by decide +kernel
theorem dX6_fact_90 : decode cX6_fact 90 = .ok (.goto 7, 3) := by decide +kernel
theorem dX6_fact_93 : decode cX6_fact 93 = .ok (.aload_n 0, 1) := by decide +kernel
theorem dX6_fact_94 : decode cX6_fact 94 = .ok (.getfield 82, 3) := by decide +kernel
theorem dX6_fact_97 : decode cX6_fact 97 = .ok (.ireturn, 1) := by decide +kernel
theorem dX6_fact_98 : decode cX6_fact 98 = .ok (.aload_n 0, 1) := by decide +kernel
theorem dX6_fact_99 : decode cX6_fact 99 = .ok (.getfield 56, 3) := by decide +kernel
theorem dX6_fact_102 : decode cX6_fact 102 = .ok (.ifnonnull 7, 3) := by decide +kernel
theorem dX6_fact_105 : decode cX6_fact 105 = .ok (.iconst 0, 1) := by decide +kernel
theorem dX6_fact_106 : decode cX6_fact 106 = .ok (.goto 7, 3) := by decide +kernel
theorem dX6_fact_109 : decode cX6_fact 109 = .ok (.aload_n 0, 1) := by decide +kernel
theorem dX6_fact_110 : decode cX6_fact 110 = .ok (.getfield 85, 3) := by decide +kernel
theorem dX6_fact_113 : decode cX6_fact 113 = .ok (.ireturn, 1) := by decide +kernel
theorem dX6_fact_114 : decode cX6_fact 114 = .ok (.aload_n 0, 1) := by decide +kernel
theorem dX6_fact_115 : decode cX6_fact 115 = .ok (.getfield 22, 3) := by decide +kernel
theorem dX6_fact_118 : decode cX6_fact 118 = .ok (.invokeinterface 88 1, 5) := by decide +kernel
theorem dX6_fact_123 : decode cX6_fact 123 = .ok (.ireturn, 1) := by decide +kernel
theorem dX6_fact_124 : decode cX6_fact 124 = .ok (.aload_n 0, 1) := by decide +kernel
theorem dX6_fact_125 : decode cX6_fact 125 = .ok (.getfield 70, 3) := by decide +kernel
theorem dX6_fact_128 : decode cX6_fact 128 = .ok (.ifCond .eq 7, 3) := by decide +kernel
theorem dX6_fact_131 : decode cX6_fact 131 = .ok (.iconst 1, 1) := by decide +kernel
theorem dX6_fact_132 : decode cX6_fact 132 = .ok (.goto 4, 3) := by decide +kernel
theorem dX6_fact_135 : decode cX6_fact 135 = .ok (.iconst 0, 1) := by decide +kernel
theorem dX6_fact_136 : decode cX6_fact 136 = .ok (.ireturn, 1) := by decide +kernel
theorem dX6_fact_137 : decode cX6_fact 137 = .ok (.aload_n 0, 1) := by decide +kernel
theorem dX6_fact_138 : decode cX6_fact 138 = .ok (.getfield 60, 3) := by decide +kernel
theorem dX6_fact_141 : decode cX6_fact 141 = .ok (.ireturn, 1) := by decide +kernel
theorem dX6_fact_142 : decode cX6_fact 142 = .ok (.aload_n 0, 1) := by decide +kernel
theorem dX6_fact_143 : decode cX6_fact 143 = .ok (.getfield 63, 3) := by decide +kernel
theorem dX6_fact_146 : decode cX6_fact 146 = .ok (.ireturn, 1) := by decide +kernel
theorem dX6_hasSuite_0 : decode cX6_hasSuite 0 = .ok (.iconst 0, 1) := by decide +kernel
theorem dX6_hasSuite_1 : decode cX6_hasSuite 1 = .ok (.istore_n 2, 1) := by decide +kernel
theorem dX6_hasSuite_2 : decode cX6_hasSuite 2 = .ok (.iload_n 2, 1) := by decide +kernel
theorem dX6_hasSuite_3 : decode cX6_hasSuite 3 = .ok (.aload_n 0, 1) := by decide +kernel
theorem dX6_hasSuite_4 : decode cX6_hasSuite 4 = .ok (.getfield 36, 3) := by decide +kernel
theorem dX6_hasSuite_7 : decode cX6_hasSuite 7 = .ok (.if_icmp .ge 21, 3) := by decide +kernel
theorem dX6_hasSuite_10 : decode cX6_hasSuite 10 = .ok (.aload_n 0, 1) := by decide +kernel
theorem dX6_hasSuite_11 : decode cX6_hasSuite 11 = .ok (.getfield 9, 3) := by decide +kernel
theorem dX6_hasSuite_14 : decode cX6_hasSuite 14 = .ok (.iload_n 2, 1) := by decide +kernel
theorem dX6_hasSuite_15 : decode cX6_hasSuite 15 = .ok (.iaload, 1) := by decide +kernel
theorem dX6_hasSuite_16 : decode cX6_hasSuite 16 = .ok (.iload_n 1, 1) := by decide +kernel
theorem dX6_hasSuite_17 : decode cX6_hasSuite 17 = .ok (.if_icmp .ne 5, 3) := by decide +kernel
theorem dX6_hasSuite_20 : decode cX6_hasSuite 20 = .ok (.iconst 1, 1) := by decide +kernel
theorem dX6_hasSuite_21 : decode cX6_hasSuite 21 = .ok (.ireturn, 1) := by decide +kernel
theorem dX6_hasSuite_22 : decode cX6_hasSuite 22 = .ok (.iinc 2 1, 3) := by decide +kernel
theorem dX6_hasSuite_25 : decode cX6_hasSuite 25 = .ok (.goto (-23), 3) := by decide +kernel
theorem dX6_hasSuite_28 : decode cX6_hasSuite 28 = .ok (.iconst 0, 1) := by decide +kernel
theorem dX6_hasSuite_29 : decode cX6_hasSuite 29 = .ok (.ireturn, 1) := by decide +kernel
theorem dX6_addSuite_0 : decode cX6_addSuite 0 = .ok (.aload_n 0, 1) := by decide +kernel
theorem dX6_addSuite_1 : decode cX6_addSuite 1 = .ok (.getfield 36, 3) := by decide +kernel
theorem dX6_addSuite_4 : decode cX6_addSuite 4 = .ok (.iconst 4, 1) := by decide +kernel
theorem dX6_addSuite_5 : decode cX6_addSuite 5 = .ok (.if_icmp .ge 23, 3) := by decide +kernel
theorem dX6_addSuite_8 : decode cX6_addSuite 8 = .ok (.aload_n 0, 1) := by decide +kernel
theorem dX6_addSuite_9 : decode cX6_addSuite 9 = .ok (.getfield 9, 3) := by decide +kernel
theorem dX6_addSuite_12 : decode cX6_addSuite 12 = .ok (.aload_n 0, 1) := by decide +kernel
theorem dX6_addSuite_13 : decode cX6_addSuite 13 = .ok (.getfield 36, 3) := by decide +kernel
theorem dX6_addSuite_16 : decode cX6_addSuite 16 = .ok (.iload_n 1, 1) := by decide +kernel
theorem dX6_addSuite_17 : decode cX6_addSuite 17 = .ok (.iastore, 1) := by decide +kernel
theorem dX6_addSuite_18 : decode cX6_addSuite 18 = .ok (.aload_n 0, 1) := by decide +kernel
theorem dX6_addSuite_19 : decode cX6_addSuite 19 = .ok (.dup, 1) := by decide +kernel
theorem dX6_addSuite_20 : decode cX6_addSuite 20 = .ok (.getfield 36, 3) := by decide +kernel
theorem dX6_addSuite_23 : decode cX6_addSuite 23 = .ok (.iconst 1, 1) := by decide +kernel
theorem dX6_addSuite_24 : decode cX6_addSuite 24 = .ok (.iadd, 1) := by decide +kernel
theorem dX6_addSuite_25 : decode cX6_addSuite 25 = .ok (.putfield 36, 3) := by decide +kernel
theorem dX6_addSuite_28 : decode cX6_addSuite 28 = .ok (.return_, 1) := by decide +kernel
theorem dX6_sharesChild_0 : decode cX6_sharesChild 0 = .ok (.iconst 0, 1) := by decide +kernel
theorem dX6_sharesChild_1 : decode cX6_sharesChild 1 = .ok (.istore_n 2, 1) := by decide +kernel
theorem dX6_sharesChild_2 : decode cX6_sharesChild 2 = .ok (.iload_n 2, 1) := by decide +kernel
theorem dX6_sharesChild_3 : decode cX6_sharesChild 3 = .ok (.aload_n 0, 1) := by decide +kernel
theorem dX6_sharesChild_4 : decode cX6_sharesChild 4 = .ok (.getfield 18, 3) := by decide +kernel
theorem dX6_sharesChild_7 : decode cX6_sharesChild 7 = .ok (.invokeinterface 88 1, 5) := by decide +kernel
theorem dX6_sharesChild_12 : decode cX6_sharesChild 12 = .ok (.if_icmp .ge 61, 3) := by decide +kernel
theorem dX6_sharesChild_15 : decode cX6_sharesChild 15 = .ok (.aload_n 0, 1) := by decide +kernel
theorem dX6_sharesChild_16 : decode cX6_sharesChild 16 = .ok (.getfield 18, 3) := by decide +kernel
theorem dX6_sharesChild_19 : decode cX6_sharesChild 19 = .ok (.iload_n 2, 1) := by decide +kernel
theorem dX6_sharesChild_20 : decode cX6_sharesChild 20 = .ok (.invokeinterface 92 2, 5) := by decide +kernel
theorem dX6_sharesChild_25 : decode cX6_sharesChild 25 = .ok (.checkcast 96, 3) := by decide +kernel
theorem dX6_sharesChild_28 : decode cX6_sharesChild 28 = .ok (.astore_n 3, 1) := by decide +kernel
theorem dX6_sharesChild_29 : decode cX6_sharesChild 29 = .ok (.aload_n 3, 1) := by decide +kernel
theorem dX6_sharesChild_30 : decode cX6_sharesChild 30 = .ok (.getfield 98, 3) := by decide +kernel
theorem dX6_sharesChild_33 : decode cX6_sharesChild 33 = .ok (.aload_n 1, 1) := by decide +kernel
theorem dX6_sharesChild_34 : decode cX6_sharesChild 34 = .ok (.getfield 101, 3) := by decide +kernel
theorem dX6_sharesChild_37 : decode cX6_sharesChild 37 = .ok (.if_icmp .ne 30, 3) := by decide +kernel
theorem dX6_sharesChild_40 : decode cX6_sharesChild 40 = .ok (.aload_n 3, 1) := by decide +kernel
theorem dX6_sharesChild_41 : decode cX6_sharesChild 41 = .ok (.getfield 101, 3) := by decide +kernel
theorem dX6_sharesChild_44 : decode cX6_sharesChild 44 = .ok (.aload_n 1, 1) := by decide +kernel
theorem dX6_sharesChild_45 : decode cX6_sharesChild 45 = .ok (.getfield 98, 3) := by decide +kernel
theorem dX6_sharesChild_48 : decode cX6_sharesChild 48 = .ok (.if_icmp .ne 19, 3) := by decide +kernel
theorem dX6_sharesChild_51 : decode cX6_sharesChild 51 = .ok (.aload_n 3, 1) := by decide +kernel
theorem dX6_sharesChild_52 : decode cX6_sharesChild 52 = .ok (.getfield 104, 3) := by decide +kernel
theorem dX6_sharesChild_55 : decode cX6_sharesChild 55 = .ok (.aload_n 1, 1) := by decide +kernel
theorem dX6_sharesChild_56 : decode cX6_sharesChild 56 = .ok (.getfield 104, 3) := by decide +kernel
theorem dX6_sharesChild_59 : decode cX6_sharesChild 59 = .ok (.invokevirtual 108, 3) := by decide +kernel
theorem dX6_sharesChild_62 : decode cX6_sharesChild 62 = .ok (.ifCond .eq 5, 3) := by decide +kernel
theorem dX6_sharesChild_65 : decode cX6_sharesChild 65 = .ok (.iconst 1, 1) := by decide +kernel
theorem dX6_sharesChild_66 : decode cX6_sharesChild 66 = .ok (.ireturn, 1) := by decide +kernel
theorem dX6_sharesChild_67 : decode cX6_sharesChild 67 = .ok (.iinc 2 1, 3) := by decide +kernel
theorem dX6_sharesChild_70 : decode cX6_sharesChild 70 = .ok (.goto (-68), 3) := by decide +kernel
theorem dX6_sharesChild_73 : decode cX6_sharesChild 73 = .ok (.iconst 0, 1) := by decide +kernel
theorem dX6_sharesChild_74 : decode cX6_sharesChild 74 = .ok (.ireturn, 1) := by decide +kernel
theorem dX6_takeWishesTillRequest_0 : decode cX6_takeWishesTillRequest 0 = .ok (.aload_n 0, 1) := by decide +kernel
theorem dX6_takeWishesTillRequest_1 : decode cX6_takeWishesTillRequest 1 = .ok (.getfield 22, 3) := by decide +kernel
theorem dX6_takeWishesTillRequest_4 : decode cX6_takeWishesTillRequest 4 = .ok (.invokeinterface 88 1, 5) := by decide +kernel
theorem dX6_takeWishesTillRequest_9 : decode cX6_takeWishesTillRequest 9 = .ok (.istore_n 1, 1) := by decide +kernel
theorem dX6_takeWishesTillRequest_10 : decode cX6_takeWishesTillRequest 10 = .ok (.iload_n 1, 1) := by decide +kernel
theorem dX6_takeWishesTillRequest_11 : decode cX6_takeWishesTillRequest 11 = .ok (.ifCond .le 50, 3) := by decide +kernel
theorem dX6_takeWishesTillRequest_14 : decode cX6_takeWishesTillRequest 14 = .ok (.aload_n 0, 1) := by decide +kernel
theorem dX6_takeWishesTillRequest_15 : decode cX6_takeWishesTillRequest 15 = .ok (.getfield 56, 3) := by decide +kernel
theorem dX6_takeWishesTillRequest_18 : decode cX6_takeWishesTillRequest 18 = .ok (.ifnonnull 43, 3) := by decide +kernel
theorem dX6_takeWishesTillRequest_21 : decode cX6_takeWishesTillRequest 21 = .ok (.aload_n 0, 1) := by decide +kernel
theorem dX6_takeWishesTillRequest_22 : decode cX6_takeWishesTillRequest 22 = .ok (.getfield 70, 3) := by decide +kernel
theorem dX6_takeWishesTillRequest_25 : decode cX6_takeWishesTillRequest 25 = .ok (.ifCond .ne 36, 3) := by decide +kernel
theorem dX6_takeWishesTillRequest_28 : decode cX6_takeWishesTillRequest 28 = .ok (.aload_n 0, 1) := by decide +kernel
theorem dX6_takeWishesTillRequest_29 : decode cX6_takeWishesTillRequest 29 = .ok (.aload_n 0, 1) := by decide +kernel
theorem dX6_takeWishesTillRequest_30 : decode cX6_takeWishesTillRequest 30 = .ok (.getfield 22, 3) := by decide +kernel
theorem dX6_takeWishesTillRequest_33 : decode cX6_takeWishesTillRequest 33 = .ok (.iconst 0, 1) := by decide +kernel
theorem dX6_takeWishesTillRequest_34 : decode cX6_takeWishesTillRequest 34 = .ok (.invokeinterface 114 2, 5) := by decide +kernel
theorem dX6_takeWishesTillRequest_39 : decode cX6_takeWishesTillRequest 39 = .ok (.checkcast 117, 3) := by decide +kernel
theorem dX6_takeWishesTillRequest_42 : decode cX6_takeWishesTillRequest 42 = .ok (.invokevirtual 119, 3) := by decide +kernel
theorem dX6_takeWishesTillRequest_45 : decode cX6_takeWishesTillRequest 45 = .ok (.astore_n 2, 1) := by decide +kernel
theorem dX6_takeWishesTillRequest_46 : decode cX6_takeWishesTillRequest 46 = .ok (.aload_n 2, 1) := by decide +kernel
theorem dX6_takeWishesTillRequest_47 : decode cX6_takeWishesTillRequest 47 = .ok (.ifnull 8, 3) := by decide +kernel
theorem dX6_takeWishesTillRequest_50 : decode cX6_takeWishesTillRequest 50 = .ok (.aload_n 0, 1) := by decide +kernel
theorem dX6_takeWishesTillRequest_51 : decode cX6_takeWishesTillRequest 51 = .ok (.aload_n 2, 1) := by decide +kernel
theorem dX6_takeWishesTillRequest_52 : decode cX6_takeWishesTillRequest 52 = .ok (.invokevirtual 123, 3) := by decide +kernel
theorem dX6_takeWishesTillRequest_55 : decode cX6_takeWishesTillRequest 55 = .ok (.iinc 1 (-1), 3) := by decide +kernel
theorem dX6_takeWishesTillRequest_58 : decode cX6_takeWishesTillRequest 58 = .ok (.goto (-48), 3) := by decide +kernel
theorem dX6_takeWishesTillRequest_61 : decode cX6_takeWishesTillRequest 61 = .ok (.return_, 1) := by decide +kernel
theorem dX6_requestFor_0 : decode cX6_requestFor 0 = .ok (.aload_n 1, 1) := by decide +kernel
theorem dX6_requestFor_1 : decode cX6_requestFor 1 = .ok (.getfield 127, 3) := by decide +kernel
theorem dX6_requestFor_4 : decode cX6_requestFor 4 = .ok (.ifCond .ne 53, 3) := by decide +kernel
theorem dX6_requestFor_7 : decode cX6_requestFor 7 = .ok (.new 128, 3) := by decide +kernel
theorem dX6_requestFor_10 : decode cX6_requestFor 10 = .ok (.dup, 1) := by decide +kernel
theorem dX6_requestFor_11 : decode cX6_requestFor 11 = .ok (.aload_n 0, 1) := by decide +kernel
theorem dX6_requestFor_12 : decode cX6_requestFor 12 = .ok (.getfield 9, 3) := by decide +kernel
theorem dX6_requestFor_15 : decode cX6_requestFor 15 = .ok (.aload_n 0, 1) := by decide +kernel
theorem dX6_requestFor_16 : decode cX6_requestFor 16 = .ok (.getfield 36, 3) := by decide +kernel
theorem dX6_requestFor_19 : decode cX6_requestFor 19 = .ok (.invokestatic 130, 3) := by decide +kernel
theorem dX6_requestFor_22 : decode cX6_requestFor 22 = .ok (.aload_n 0, 1) := by decide +kernel
theorem dX6_requestFor_23 : decode cX6_requestFor 23 = .ok (.getfield 39, 3) := by decide +kernel
theorem dX6_requestFor_26 : decode cX6_requestFor 26 = .ok (.aload_n 0, 1) := by decide +kernel
theorem dX6_requestFor_27 : decode cX6_requestFor 27 = .ok (.getfield 42, 3) := by decide +kernel
theorem dX6_requestFor_30 : decode cX6_requestFor 30 = .ok (.invokespecial 136, 3) := by decide +kernel
theorem dX6_requestFor_33 : decode cX6_requestFor 33 = .ok (.astore_n 2, 1) := by decide +kernel
theorem dX6_requestFor_34 : decode cX6_requestFor 34 = .ok (.new 75, 3) := by decide +kernel
theorem dX6_requestFor_37 : decode cX6_requestFor 37 = .ok (.dup, 1) := by decide +kernel
theorem dX6_requestFor_38 : decode cX6_requestFor 38 = .ok (.aload_n 0, 1) := by decide +kernel
theorem dX6_requestFor_39 : decode cX6_requestFor 39 = .ok (.getfield 60, 3) := by decide +kernel
theorem dX6_requestFor_42 : decode cX6_requestFor 42 = .ok (.iconst 0, 1) := by decide +kernel
theorem dX6_requestFor_43 : decode cX6_requestFor 43 = .ok (.aload_n 0, 1) := by decide +kernel
theorem dX6_requestFor_44 : decode cX6_requestFor 44 = .ok (.invokevirtual 139, 3) := by decide +kernel
theorem dX6_requestFor_47 : decode cX6_requestFor 47 = .ok (.aload_n 0, 1) := by decide +kernel
theorem dX6_requestFor_48 : decode cX6_requestFor 48 = .ok (.invokevirtual 142, 3) := by decide +kernel
theorem dX6_requestFor_51 : decode cX6_requestFor 51 = .ok (.aconst_null, 1) := by decide +kernel
theorem dX6_requestFor_52 : decode cX6_requestFor 52 = .ok (.aload_n 2, 1) := by decide +kernel
theorem dX6_requestFor_53 : decode cX6_requestFor 53 = .ok (.invokespecial 145, 3) := by decide +kernel
theorem dX6_requestFor_56 : decode cX6_requestFor 56 = .ok (.areturn, 1) := by decide +kernel
theorem dX6_requestFor_57 : decode cX6_requestFor 57 = .ok (.aload_n 0, 1) := by decide +kernel
theorem dX6_requestFor_58 : decode cX6_requestFor 58 = .ok (.aload_n 1, 1) := by decide +kernel
theorem dX6_requestFor_59 : decode cX6_requestFor 59 = .ok (.getfield 148, 3) := by decide +kernel
theorem dX6_requestFor_62 : decode cX6_requestFor 62 = .ok (.invokevirtual 149, 3) := by decide +kernel
theorem dX6_requestFor_65 : decode cX6_requestFor 65 = .ok (.astore_n 2, 1) := by decide +kernel
theorem dX6_requestFor_66 : decode cX6_requestFor 66 = .ok (.aload_n 2, 1) := by decide +kernel
theorem dX6_requestFor_67 : decode cX6_requestFor 67 = .ok (.ifnonnull 5, 3) := by decide +kernel
theorem dX6_requestFor_70 : decode cX6_requestFor 70 = .ok (.aconst_null, 1) := by decide +kernel
theorem dX6_requestFor_71 : decode cX6_requestFor 71 = .ok (.areturn, 1) := by decide +kernel
theorem dX6_requestFor_72 : decode cX6_requestFor 72 = .ok (.aload_n 1, 1) := by decide +kernel
theorem dX6_requestFor_73 : decode cX6_requestFor 73 = .ok (.getfield 127, 3) := by decide +kernel
theorem dX6_requestFor_76 : decode cX6_requestFor 76 = .ok (.iconst 2, 1) := by decide +kernel
theorem dX6_requestFor_77 : decode cX6_requestFor 77 = .ok (.if_icmp .ne 20, 3) := by decide +kernel
theorem dX6_requestFor_80 : decode cX6_requestFor 80 = .ok (.new 75, 3) := by decide +kernel
theorem dX6_requestFor_83 : decode cX6_requestFor 83 = .ok (.dup, 1) := by decide +kernel
theorem dX6_requestFor_84 : decode cX6_requestFor 84 = .ok (.aload_n 0, 1) := by decide +kernel
theorem dX6_requestFor_85 : decode cX6_requestFor 85 = .ok (.getfield 60, 3) := by decide +kernel
theorem dX6_requestFor_88 : decode cX6_requestFor 88 = .ok (.iconst 2, 1) := by decide +kernel
theorem dX6_requestFor_89 : decode cX6_requestFor 89 = .ok (.iconst 0, 1) := by decide +kernel
theorem dX6_requestFor_90 : decode cX6_requestFor 90 = .ok (.iconst 0, 1) := by decide +kernel
theorem dX6_requestFor_91 : decode cX6_requestFor 91 = .ok (.aload_n 2, 1) := by decide +kernel
theorem dX6_requestFor_92 : decode cX6_requestFor 92 = .ok (.aconst_null, 1) := by decide +kernel
theorem dX6_requestFor_93 : decode cX6_requestFor 93 = .ok (.invokespecial 145, 3) := by decide +kernel
theorem dX6_requestFor_96 : decode cX6_requestFor 96 = .ok (.areturn, 1) := by decide +kernel
theorem dX6_requestFor_97 : decode cX6_requestFor 97 = .ok (.aload_n 0, 1) := by decide +kernel
theorem dX6_requestFor_98 : decode cX6_requestFor 98 = .ok (.aload_n 2, 1) := by decide +kernel
theorem dX6_requestFor_99 : decode cX6_requestFor 99 = .ok (.getfield 98, 3) := by decide +kernel
theorem dX6_requestFor_102 : decode cX6_requestFor 102 = .ok (.iconst 1, 1) := by decide +kernel
theorem dX6_requestFor_103 : decode cX6_requestFor 103 = .ok (.invokevirtual 153, 3) := by decide +kernel
theorem dX6_requestFor_106 : decode cX6_requestFor 106 = .ok (.ifnonnull 15, 3) := by decide +kernel
theorem dX6_requestFor_109 : decode cX6_requestFor 109 = .ok (.aload_n 0, 1) := by decide +kernel
theorem dX6_requestFor_110 : decode cX6_requestFor 110 = .ok (.aload_n 2, 1) := by decide +kernel
theorem dX6_requestFor_111 : decode cX6_requestFor 111 = .ok (.getfield 98, 3) := by decide +kernel
theorem dX6_requestFor_114 : decode cX6_requestFor 114 = .ok (.iconst 0, 1) := by decide +kernel
theorem dX6_requestFor_115 : decode cX6_requestFor 115 = .ok (.invokevirtual 153, 3) := by decide +kernel
theorem dX6_requestFor_118 : decode cX6_requestFor 118 = .ok (.ifnull 5, 3) := by decide +kernel
theorem dX6_requestFor_121 : decode cX6_requestFor 121 = .ok (.aconst_null, 1) := by decide +kernel
theorem dX6_requestFor_122 : decode cX6_requestFor 122 = .ok (.areturn, 1) := by decide +kernel
theorem dX6_requestFor_123 : decode cX6_requestFor 123 = .ok (.new 75, 3) := by decide +kernel
theorem dX6_requestFor_126 : decode cX6_requestFor 126 = .ok (.dup, 1) := by decide +kernel
theorem dX6_requestFor_127 : decode cX6_requestFor 127 = .ok (.aload_n 0, 1) := by decide +kernel
theorem dX6_requestFor_128 : decode cX6_requestFor 128 = .ok (.getfield 60, 3) := by decide +kernel
theorem dX6_requestFor_131 : decode cX6_requestFor 131 = .ok (.iconst 1, 1) := by decide +kernel
theorem dX6_requestFor_132 : decode cX6_requestFor 132 = .ok (.aload_n 0, 1) := by decide +kernel
theorem dX6_requestFor_133 : decode cX6_requestFor 133 = .ok (.invokevirtual 139, 3) := by decide +kernel
theorem dX6_requestFor_136 : decode cX6_requestFor 136 = .ok (.aload_n 0, 1) := by decide +kernel
theorem dX6_requestFor_137 : decode cX6_requestFor 137 = .ok (.invokevirtual 142, 3) := by decide +kernel
theorem dX6_requestFor_140 : decode cX6_requestFor 140 = .ok (.aload_n 2, 1) := by decide +kernel
theorem dX6_requestFor_141 : decode cX6_requestFor 141 = .ok (.aconst_null, 1) := by decide +kernel
theorem dX6_requestFor_142 : decode cX6_requestFor 142 = .ok (.invokespecial 145, 3) := by decide +kernel
theorem dX6_requestFor_145 : decode cX6_requestFor 145 = .ok (.areturn, 1) := by decide +kernel
theorem dX6_sendFirst_0 : decode cX6_sendFirst 0 = .ok (.aload_n 0, 1) := by decide +kernel
theorem dX6_sendFirst_1 : decode cX6_sendFirst 1 = .ok (.aload_n 1, 1) := by decide +kernel
theorem dX6_sendFirst_2 : decode cX6_sendFirst 2 = .ok (.putfield 56, 3) := by decide +kernel
theorem dX6_sendFirst_5 : decode cX6_sendFirst 5 = .ok (.aload_n 0, 1) := by decide +kernel
theorem dX6_sendFirst_6 : decode cX6_sendFirst 6 = .ok (.dup, 1) := by decide +kernel
theorem dX6_sendFirst_7 : decode cX6_sendFirst 7 = .ok (.getfield 60, 3) := by decide +kernel
theorem dX6_sendFirst_10 : decode cX6_sendFirst 10 = .ok (.iconst 1, 1) := by decide +kernel
theorem dX6_sendFirst_11 : decode cX6_sendFirst 11 = .ok (.iadd, 1) := by decide +kernel
theorem dX6_sendFirst_12 : decode cX6_sendFirst 12 = .ok (.putfield 60, 3) := by decide +kernel
theorem dX6_sendFirst_15 : decode cX6_sendFirst 15 = .ok (.aload_n 0, 1) := by decide +kernel
theorem dX6_sendFirst_16 : decode cX6_sendFirst 16 = .ok (.iconst 1, 1) := by decide +kernel
theorem dX6_sendFirst_17 : decode cX6_sendFirst 17 = .ok (.putfield 82, 3) := by decide +kernel
theorem dX6_sendFirst_20 : decode cX6_sendFirst 20 = .ok (.aload_n 0, 1) := by decide +kernel
theorem dX6_sendFirst_21 : decode cX6_sendFirst 21 = .ok (.iconst 4, 1) := by decide +kernel
theorem dX6_sendFirst_22 : decode cX6_sendFirst 22 = .ok (.putfield 157, 3) := by decide +kernel
theorem dX6_sendFirst_25 : decode cX6_sendFirst 25 = .ok (.aload_n 0, 1) := by decide +kernel
theorem dX6_sendFirst_26 : decode cX6_sendFirst 26 = .ok (.iconst 4, 1) := by decide +kernel
theorem dX6_sendFirst_27 : decode cX6_sendFirst 27 = .ok (.putfield 85, 3) := by decide +kernel
theorem dX6_sendFirst_30 : decode cX6_sendFirst 30 = .ok (.aload_n 0, 1) := by decide +kernel
theorem dX6_sendFirst_31 : decode cX6_sendFirst 31 = .ok (.getfield 29, 3) := by decide +kernel
theorem dX6_sendFirst_34 : decode cX6_sendFirst 34 = .ok (.aload_n 1, 1) := by decide +kernel
theorem dX6_sendFirst_35 : decode cX6_sendFirst 35 = .ok (.invokevirtual 160, 3) := by decide +kernel
theorem dX6_sendFirst_38 : decode cX6_sendFirst 38 = .ok (.return_, 1) := by decide +kernel
theorem dX6_waitOneTick_0 : decode cX6_waitOneTick 0 = .ok (.aload_n 0, 1) := by decide +kernel
theorem dX6_waitOneTick_1 : decode cX6_waitOneTick 1 = .ok (.getfield 56, 3) := by decide +kernel
theorem dX6_waitOneTick_4 : decode cX6_waitOneTick 4 = .ok (.ifnonnull 5, 3) := by decide +kernel
theorem dX6_waitOneTick_7 : decode cX6_waitOneTick 7 = .ok (.iconst 0, 1) := by decide +kernel
theorem dX6_waitOneTick_8 : decode cX6_waitOneTick 8 = .ok (.ireturn, 1) := by decide +kernel
theorem dX6_waitOneTick_9 : decode cX6_waitOneTick 9 = .ok (.aload_n 0, 1) := by decide +kernel
theorem dX6_waitOneTick_10 : decode cX6_waitOneTick 10 = .ok (.dup, 1) := by decide +kernel
theorem dX6_waitOneTick_11 : decode cX6_waitOneTick 11 = .ok (.getfield 85, 3) := by decide +kernel
theorem dX6_waitOneTick_14 : decode cX6_waitOneTick 14 = .ok (.iconst 1, 1) := by decide +kernel
theorem dX6_waitOneTick_15 : decode cX6_waitOneTick 15 = .ok (.isub, 1) := by decide +kernel
theorem dX6_waitOneTick_16 : decode cX6_waitOneTick 16 = .ok (.putfield 85, 3) := by decide +kernel
theorem dX6_waitOneTick_19 : decode cX6_waitOneTick 19 = .ok (.aload_n 0, 1) := by decide +kernel
theorem dX6_waitOneTick_20 : decode cX6_waitOneTick 20 = .ok (.getfield 85, 3) := by decide +kernel
theorem dX6_waitOneTick_23 : decode cX6_waitOneTick 23 = .ok (.ifCond .le 5, 3) := by decide +kernel
theorem dX6_waitOneTick_26 : decode cX6_waitOneTick 26 = .ok (.iconst 0, 1) := by decide +kernel
theorem dX6_waitOneTick_27 : decode cX6_waitOneTick 27 = .ok (.ireturn, 1) := by decide +kernel
theorem dX6_waitOneTick_28 : decode cX6_waitOneTick 28 = .ok (.aload_n 0, 1) := by decide +kernel
theorem dX6_waitOneTick_29 : decode cX6_waitOneTick 29 = .ok (.getfield 82, 3) := by decide +kernel
theorem dX6_waitOneTick_32 : decode cX6_waitOneTick 32 = .ok (.iconst 5, 1) := by decide +kernel
theorem dX6_waitOneTick_33 : decode cX6_waitOneTick 33 = .ok (.if_icmp .lt 15, 3) := by decide +kernel
theorem dX6_waitOneTick_36 : decode cX6_waitOneTick 36 = .ok (.aload_n 0, 1) := by decide +kernel
theorem dX6_waitOneTick_37 : decode cX6_waitOneTick 37 = .ok (.aconst_null, 1) := by decide +kernel
theorem dX6_waitOneTick_38 : decode cX6_waitOneTick 38 = .ok (.putfield 56, 3) := by decide +kernel
theorem dX6_waitOneTick_41 : decode cX6_waitOneTick 41 = .ok (.aload_n 0, 1) := by decide +kernel
theorem dX6_waitOneTick_42 : decode cX6_waitOneTick 42 = .ok (.iconst 1, 1) := by decide +kernel
theorem dX6_waitOneTick_43 : decode cX6_waitOneTick 43 = .ok (.putfield 70, 3) := by decide +kernel
theorem dX6_waitOneTick_46 : decode cX6_waitOneTick 46 = .ok (.iconst 0, 1) := by decide +kernel
theorem dX6_waitOneTick_47 : decode cX6_waitOneTick 47 = .ok (.ireturn, 1) := by decide +kernel
theorem dX6_waitOneTick_48 : decode cX6_waitOneTick 48 = .ok (.aload_n 0, 1) := by decide +kernel
theorem dX6_waitOneTick_49 : decode cX6_waitOneTick 49 = .ok (.dup, 1) := by decide +kernel
theorem dX6_waitOneTick_50 : decode cX6_waitOneTick 50 = .ok (.getfield 82, 3) := by decide +kernel
theorem dX6_waitOneTick_53 : decode cX6_waitOneTick 53 = .ok (.iconst 1, 1) := by decide +kernel
theorem dX6_waitOneTick_54 : decode cX6_waitOneTick 54 = .ok (.iadd, 1) := by decide +kernel
theorem dX6_waitOneTick_55 : decode cX6_waitOneTick 55 = .ok (.putfield 82, 3) := by decide +kernel
theorem dX6_waitOneTick_58 : decode cX6_waitOneTick 58 = .ok (.aload_n 0, 1) := by decide +kernel
theorem dX6_waitOneTick_59 : decode cX6_waitOneTick 59 = .ok (.dup, 1) := by decide +kernel
theorem dX6_waitOneTick_60 : decode cX6_waitOneTick 60 = .ok (.getfield 157, 3) := by decide +kernel
theorem dX6_waitOneTick_63 : decode cX6_waitOneTick 63 = .ok (.iconst 2, 1) := by decide +kernel
theorem dX6_waitOneTick_64 : decode cX6_waitOneTick 64 = .ok (.imul, 1) := by decide +kernel
theorem dX6_waitOneTick_65 : decode cX6_waitOneTick 65 = .ok (.putfield 157, 3) := by decide +kernel
theorem dX6_waitOneTick_68 : decode cX6_waitOneTick 68 = .ok (.aload_n 0, 1) := by decide +kernel
theorem dX6_waitOneTick_69 : decode cX6_waitOneTick 69 = .ok (.aload_n 0, 1) := by decide +kernel
theorem dX6_waitOneTick_70 : decode cX6_waitOneTick 70 = .ok (.getfield 157, 3) := by decide +kernel
theorem dX6_waitOneTick_73 : decode cX6_waitOneTick 73 = .ok (.putfield 85, 3) := by decide +kernel
theorem dX6_waitOneTick_76 : decode cX6_waitOneTick 76 = .ok (.aload_n 0, 1) := by decide +kernel
theorem dX6_waitOneTick_77 : decode cX6_waitOneTick 77 = .ok (.getfield 29, 3) := by decide +kernel
theorem dX6_waitOneTick_80 : decode cX6_waitOneTick 80 = .ok (.aload_n 0, 1) := by decide +kernel
theorem dX6_waitOneTick_81 : decode cX6_waitOneTick 81 = .ok (.getfield 56, 3) := by decide +kernel
theorem dX6_waitOneTick_84 : decode cX6_waitOneTick 84 = .ok (.invokevirtual 160, 3) := by decide +kernel
theorem dX6_waitOneTick_87 : decode cX6_waitOneTick 87 = .ok (.iconst 1, 1) := by decide +kernel
theorem dX6_waitOneTick_88 : decode cX6_waitOneTick 88 = .ok (.ireturn, 1) := by decide +kernel
theorem dX6_receive_0 : decode cX6_receive 0 = .ok (.aload_n 0, 1) := by decide +kernel
theorem dX6_receive_1 : decode cX6_receive 1 = .ok (.getfield 70, 3) := by decide +kernel
theorem dX6_receive_4 : decode cX6_receive 4 = .ok (.ifCond .eq 5, 3) := by decide +kernel
theorem dX6_receive_7 : decode cX6_receive 7 = .ok (.iconst 0, 1) := by decide +kernel
theorem dX6_receive_8 : decode cX6_receive 8 = .ok (.ireturn, 1) := by decide +kernel
theorem dX6_receive_9 : decode cX6_receive 9 = .ok (.aload_n 1, 1) := by decide +kernel
theorem dX6_receive_10 : decode cX6_receive 10 = .ok (.instanceof 75, 3) := by decide +kernel
theorem dX6_receive_13 : decode cX6_receive 13 = .ok (.ifCond .eq 14, 3) := by decide +kernel
theorem dX6_receive_16 : decode cX6_receive 16 = .ok (.aload_n 1, 1) := by decide +kernel
theorem dX6_receive_17 : decode cX6_receive 17 = .ok (.checkcast 75, 3) := by decide +kernel
theorem dX6_receive_20 : decode cX6_receive 20 = .ok (.astore_n 2, 1) := by decide +kernel
theorem dX6_receive_21 : decode cX6_receive 21 = .ok (.aload_n 0, 1) := by decide +kernel
theorem dX6_receive_22 : decode cX6_receive 22 = .ok (.aload_n 2, 1) := by decide +kernel
theorem dX6_receive_23 : decode cX6_receive 23 = .ok (.invokevirtual 166, 3) := by decide +kernel
theorem dX6_receive_26 : decode cX6_receive 26 = .ok (.ireturn, 1) := by decide +kernel
theorem dX6_receive_27 : decode cX6_receive 27 = .ok (.aload_n 1, 1) := by decide +kernel
theorem dX6_receive_28 : decode cX6_receive 28 = .ok (.instanceof 170, 3) := by decide +kernel
theorem dX6_receive_31 : decode cX6_receive 31 = .ok (.ifCond .eq 14, 3) := by decide +kernel
theorem dX6_receive_34 : decode cX6_receive 34 = .ok (.aload_n 1, 1) := by decide +kernel
theorem dX6_receive_35 : decode cX6_receive 35 = .ok (.checkcast 170, 3) := by decide +kernel
theorem dX6_receive_38 : decode cX6_receive 38 = .ok (.astore_n 2, 1) := by decide +kernel
theorem dX6_receive_39 : decode cX6_receive 39 = .ok (.aload_n 0, 1) := by decide +kernel
theorem dX6_receive_40 : decode cX6_receive 40 = .ok (.aload_n 2, 1) := by decide +kernel
theorem dX6_receive_41 : decode cX6_receive 41 = .ok (.invokevirtual 172, 3) := by decide +kernel
theorem dX6_receive_44 : decode cX6_receive 44 = .ok (.ireturn, 1) := by decide +kernel
theorem dX6_receive_45 : decode cX6_receive 45 = .ok (.iconst 0, 1) := by decide +kernel
theorem dX6_receive_46 : decode cX6_receive 46 = .ok (.ireturn, 1) := by decide +kernel
theorem dX6_receiveRequest_0 : decode cX6_receiveRequest 0 = .ok (.aload_n 0, 1) := by decide +kernel
theorem dX6_receiveRequest_1 : decode cX6_receiveRequest 1 = .ok (.getfield 66, 3) := by decide +kernel
theorem dX6_receiveRequest_4 : decode cX6_receiveRequest 4 = .ok (.ifnull 30, 3) := by decide +kernel
theorem dX6_receiveRequest_7 : decode cX6_receiveRequest 7 = .ok (.aload_n 1, 1) := by decide +kernel
theorem dX6_receiveRequest_8 : decode cX6_receiveRequest 8 = .ok (.getfield 74, 3) := by decide +kernel
theorem dX6_receiveRequest_11 : decode cX6_receiveRequest 11 = .ok (.aload_n 0, 1) := by decide +kernel
theorem dX6_receiveRequest_12 : decode cX6_receiveRequest 12 = .ok (.getfield 66, 3) := by decide +kernel
theorem dX6_receiveRequest_15 : decode cX6_receiveRequest 15 = .ok (.getfield 176, 3) := by decide +kernel
theorem dX6_receiveRequest_18 : decode cX6_receiveRequest 18 = .ok (.if_icmp .ne 16, 3) := by decide +kernel
theorem dX6_receiveRequest_21 : decode cX6_receiveRequest 21 = .ok (.aload_n 0, 1) := by decide +kernel
theorem dX6_receiveRequest_22 : decode cX6_receiveRequest 22 = .ok (.getfield 29, 3) := by decide +kernel
theorem dX6_receiveRequest_25 : decode cX6_receiveRequest 25 = .ok (.aload_n 0, 1) := by decide +kernel
theorem dX6_receiveRequest_26 : decode cX6_receiveRequest 26 = .ok (.getfield 66, 3) := by decide +kernel
theorem dX6_receiveRequest_29 : decode cX6_receiveRequest 29 = .ok (.invokevirtual 160, 3) := by decide +kernel
theorem dX6_receiveRequest_32 : decode cX6_receiveRequest 32 = .ok (.iconst 2, 1) := by decide +kernel
theorem dX6_receiveRequest_33 : decode cX6_receiveRequest 33 = .ok (.ireturn, 1) := by decide +kernel
theorem dX6_receiveRequest_34 : decode cX6_receiveRequest 34 = .ok (.aload_n 1, 1) := by decide +kernel
theorem dX6_receiveRequest_35 : decode cX6_receiveRequest 35 = .ok (.getfield 74, 3) := by decide +kernel
theorem dX6_receiveRequest_38 : decode cX6_receiveRequest 38 = .ok (.aload_n 0, 1) := by decide +kernel
theorem dX6_receiveRequest_39 : decode cX6_receiveRequest 39 = .ok (.getfield 63, 3) := by decide +kernel
theorem dX6_receiveRequest_42 : decode cX6_receiveRequest 42 = .ok (.if_icmp .eq 5, 3) := by decide +kernel
theorem dX6_receiveRequest_45 : decode cX6_receiveRequest 45 = .ok (.iconst 0, 1) := by decide +kernel
theorem dX6_receiveRequest_46 : decode cX6_receiveRequest 46 = .ok (.ireturn, 1) := by decide +kernel
theorem dX6_receiveRequest_47 : decode cX6_receiveRequest 47 = .ok (.aload_n 0, 1) := by decide +kernel
theorem dX6_receiveRequest_48 : decode cX6_receiveRequest 48 = .ok (.dup, 1) := by decide +kernel
theorem dX6_receiveRequest_49 : decode cX6_receiveRequest 49 = .ok (.getfield 63, 3) := by decide +kernel
theorem dX6_receiveRequest_52 : decode cX6_receiveRequest 52 = .ok (.iconst 1, 1) := by decide +kernel
theorem dX6_receiveRequest_53 : decode cX6_receiveRequest 53 = .ok (.iadd, 1) := by decide +kernel
theorem dX6_receiveRequest_54 : decode cX6_receiveRequest 54 = .ok (.putfield 63, 3) := by decide +kernel
theorem dX6_receiveRequest_57 : decode cX6_receiveRequest 57 = .ok (.aload_n 1, 1) := by decide +kernel
theorem dX6_receiveRequest_58 : decode cX6_receiveRequest 58 = .ok (.getfield 79, 3) := by decide +kernel
theorem dX6_receiveRequest_61 : decode cX6_receiveRequest 61 = .ok (.ifCond .ne 15, 3) := by decide +kernel
theorem dX6_receiveRequest_64 : decode cX6_receiveRequest 64 = .ok (.aload_n 0, 1) := by decide +kernel
theorem dX6_receiveRequest_65 : decode cX6_receiveRequest 65 = .ok (.aload_n 0, 1) := by decide +kernel
theorem dX6_receiveRequest_66 : decode cX6_receiveRequest 66 = .ok (.aload_n 1, 1) := by decide +kernel
theorem dX6_receiveRequest_67 : decode cX6_receiveRequest 67 = .ok (.invokevirtual 177, 3) := by decide +kernel
theorem dX6_receiveRequest_70 : decode cX6_receiveRequest 70 = .ok (.putfield 66, 3) := by decide +kernel
theorem dX6_receiveRequest_73 : decode cX6_receiveRequest 73 = .ok (.goto 32, 3) := by decide +kernel
theorem dX6_receiveRequest_76 : decode cX6_receiveRequest 76 = .ok (.aload_n 1, 1) := by decide +kernel
theorem dX6_receiveRequest_77 : decode cX6_receiveRequest 77 = .ok (.getfield 79, 3) := by decide +kernel
theorem dX6_receiveRequest_80 : decode cX6_receiveRequest 80 = .ok (.iconst 1, 1) := by decide +kernel
theorem dX6_receiveRequest_81 : decode cX6_receiveRequest 81 = .ok (.if_icmp .ne 15, 3) := by decide +kernel
theorem dX6_receiveRequest_84 : decode cX6_receiveRequest 84 = .ok (.aload_n 0, 1) := by decide +kernel
theorem dX6_receiveRequest_85 : decode cX6_receiveRequest 85 = .ok (.aload_n 0, 1) := by decide +kernel
theorem dX6_receiveRequest_86 : decode cX6_receiveRequest 86 = .ok (.aload_n 1, 1) := by decide +kernel
theorem dX6_receiveRequest_87 : decode cX6_receiveRequest 87 = .ok (.invokevirtual 181, 3) := by decide +kernel
theorem dX6_receiveRequest_90 : decode cX6_receiveRequest 90 = .ok (.putfield 66, 3) := by decide +kernel
theorem dX6_receiveRequest_93 : decode cX6_receiveRequest 93 = .ok (.goto 12, 3) := by decide +kernel
theorem dX6_receiveRequest_96 : decode cX6_receiveRequest 96 = .ok (.aload_n 0, 1) := by decide +kernel
theorem dX6_receiveRequest_97 : decode cX6_receiveRequest 97 = .ok (.aload_n 0, 1) := by decide +kernel
theorem dX6_receiveRequest_98 : decode cX6_receiveRequest 98 = .ok (.aload_n 1, 1) := by decide +kernel
theorem dX6_receiveRequest_99 : decode cX6_receiveRequest 99 = .ok (.invokevirtual 184, 3) := by decide +kernel
theorem dX6_receiveRequest_102 : decode cX6_receiveRequest 102 = .ok (.putfield 66, 3) := by decide +kernel
theorem dX6_receiveRequest_105 : decode cX6_receiveRequest 105 = .ok (.aload_n 0, 1) := by decide +kernel
theorem dX6_receiveRequest_106 : decode cX6_receiveRequest 106 = .ok (.getfield 29, 3) := by decide +kernel
theorem dX6_receiveRequest_109 : decode cX6_receiveRequest 109 = .ok (.aload_n 0, 1) := by decide +kernel
theorem dX6_receiveRequest_110 : decode cX6_receiveRequest 110 = .ok (.getfield 66, 3) := by decide +kernel
theorem dX6_receiveRequest_113 : decode cX6_receiveRequest 113 = .ok (.invokevirtual 160, 3) := by decide +kernel
theorem dX6_receiveRequest_116 : decode cX6_receiveRequest 116 = .ok (.iconst 1, 1) := by decide +kernel
theorem dX6_receiveRequest_117 : decode cX6_receiveRequest 117 = .ok (.ireturn, 1) := by decide +kernel
theorem dX6_answerToOpen_0 : decode cX6_answerToOpen 0 = .ok (.aload_n 0, 1) := by decide +kernel
theorem dX6_answerToOpen_1 : decode cX6_answerToOpen 1 = .ok (.aload_n 1, 1) := by decide +kernel
theorem dX6_answerToOpen_2 : decode cX6_answerToOpen 2 = .ok (.getfield 187, 3) := by decide +kernel
theorem dX6_answerToOpen_5 : decode cX6_answerToOpen 5 = .ok (.invokevirtual 191, 3) := by decide +kernel
theorem dX6_answerToOpen_8 : decode cX6_answerToOpen 8 = .ok (.astore_n 2, 1) := by decide +kernel
theorem dX6_answerToOpen_9 : decode cX6_answerToOpen 9 = .ok (.aload_n 2, 1) := by decide +kernel
theorem dX6_answerToOpen_10 : decode cX6_answerToOpen 10 = .ok (.ifnull 10, 3) := by decide +kernel
theorem dX6_answerToOpen_13 : decode cX6_answerToOpen 13 = .ok (.aload_n 0, 1) := by decide +kernel
theorem dX6_answerToOpen_14 : decode cX6_answerToOpen 14 = .ok (.invokevirtual 195, 3) := by decide +kernel
theorem dX6_answerToOpen_17 : decode cX6_answerToOpen 17 = .ok (.ifCond .eq 8, 3) := by decide +kernel
theorem dX6_answerToOpen_20 : decode cX6_answerToOpen 20 = .ok (.aload_n 1, 1) := by decide +kernel
theorem dX6_answerToOpen_21 : decode cX6_answerToOpen 21 = .ok (.invokestatic 199, 3) := by decide +kernel
theorem dX6_answerToOpen_24 : decode cX6_answerToOpen 24 = .ok (.areturn, 1) := by decide +kernel
theorem dX6_answerToOpen_25 : decode cX6_answerToOpen 25 = .ok (.aload_n 0, 1) := by decide +kernel
theorem dX6_answerToOpen_26 : decode cX6_answerToOpen 26 = .ok (.invokevirtual 139, 3) := by decide +kernel
theorem dX6_answerToOpen_29 : decode cX6_answerToOpen 29 = .ok (.istore_n 3, 1) := by decide +kernel
theorem dX6_answerToOpen_30 : decode cX6_answerToOpen 30 = .ok (.aload_n 0, 1) := by decide +kernel
theorem dX6_answerToOpen_31 : decode cX6_answerToOpen 31 = .ok (.invokevirtual 142, 3) := by decide +kernel
theorem dX6_answerToOpen_34 : decode cX6_answerToOpen 34 = .ok (.istore 4, 2) := by decide +kernel
theorem dX6_answerToOpen_36 : decode cX6_answerToOpen 36 = .ok (.aload_n 0, 1) := by decide +kernel
theorem dX6_answerToOpen_37 : decode cX6_answerToOpen 37 = .ok (.new 96, 3) := by decide +kernel
theorem dX6_answerToOpen_40 : decode cX6_answerToOpen 40 = .ok (.dup, 1) := by decide +kernel
theorem dX6_answerToOpen_41 : decode cX6_answerToOpen 41 = .ok (.iload_n 3, 1) := by decide +kernel
theorem dX6_answerToOpen_42 : decode cX6_answerToOpen 42 = .ok (.aload_n 1, 1) := by decide +kernel
theorem dX6_answerToOpen_43 : decode cX6_answerToOpen 43 = .ok (.getfield 202, 3) := by decide +kernel
theorem dX6_answerToOpen_46 : decode cX6_answerToOpen 46 = .ok (.aload_n 2, 1) := by decide +kernel
theorem dX6_answerToOpen_47 : decode cX6_answerToOpen 47 = .ok (.iconst 0, 1) := by decide +kernel
theorem dX6_answerToOpen_48 : decode cX6_answerToOpen 48 = .ok (.iconst 0, 1) := by decide +kernel
theorem dX6_answerToOpen_49 : decode cX6_answerToOpen 49 = .ok (.aload_n 1, 1) := by decide +kernel
theorem dX6_answerToOpen_50 : decode cX6_answerToOpen 50 = .ok (.getfield 203, 3) := by decide +kernel
theorem dX6_answerToOpen_53 : decode cX6_answerToOpen 53 = .ok (.iload 4, 2) := by decide +kernel
theorem dX6_answerToOpen_55 : decode cX6_answerToOpen 55 = .ok (.invokestatic 206, 3) := by decide +kernel
theorem dX6_answerToOpen_58 : decode cX6_answerToOpen 58 = .ok (.invokespecial 212, 3) := by decide +kernel
theorem dX6_answerToOpen_61 : decode cX6_answerToOpen 61 = .ok (.invokevirtual 215, 3) := by decide +kernel
theorem dX6_answerToOpen_64 : decode cX6_answerToOpen 64 = .ok (.new 170, 3) := by decide +kernel
theorem dX6_answerToOpen_67 : decode cX6_answerToOpen 67 = .ok (.dup, 1) := by decide +kernel
theorem dX6_answerToOpen_68 : decode cX6_answerToOpen 68 = .ok (.aload_n 1, 1) := by decide +kernel
theorem dX6_answerToOpen_69 : decode cX6_answerToOpen 69 = .ok (.iconst 0, 1) := by decide +kernel
theorem dX6_answerToOpen_70 : decode cX6_answerToOpen 70 = .ok (.iload_n 3, 1) := by decide +kernel
theorem dX6_answerToOpen_71 : decode cX6_answerToOpen 71 = .ok (.iload 4, 2) := by decide +kernel
theorem dX6_answerToOpen_73 : decode cX6_answerToOpen 73 = .ok (.aload_n 2, 1) := by decide +kernel
theorem dX6_answerToOpen_74 : decode cX6_answerToOpen 74 = .ok (.invokespecial 219, 3) := by decide +kernel
theorem dX6_answerToOpen_77 : decode cX6_answerToOpen 77 = .ok (.areturn, 1) := by decide +kernel
theorem dX6_answerToRenew_0 : decode cX6_answerToRenew 0 = .ok (.aload_n 0, 1) := by decide +kernel
theorem dX6_answerToRenew_1 : decode cX6_answerToRenew 1 = .ok (.aload_n 1, 1) := by decide +kernel
theorem dX6_answerToRenew_2 : decode cX6_answerToRenew 2 = .ok (.invokevirtual 222, 3) := by decide +kernel
theorem dX6_answerToRenew_5 : decode cX6_answerToRenew 5 = .ok (.invokevirtual 225, 3) := by decide +kernel
theorem dX6_answerToRenew_8 : decode cX6_answerToRenew 8 = .ok (.astore_n 2, 1) := by decide +kernel
theorem dX6_answerToRenew_9 : decode cX6_answerToRenew 9 = .ok (.aload_n 2, 1) := by decide +kernel
theorem dX6_answerToRenew_10 : decode cX6_answerToRenew 10 = .ok (.ifnull 22, 3) := by decide +kernel
theorem dX6_answerToRenew_13 : decode cX6_answerToRenew 13 = .ok (.aload_n 0, 1) := by decide +kernel
theorem dX6_answerToRenew_14 : decode cX6_answerToRenew 14 = .ok (.aload_n 2, 1) := by decide +kernel
theorem dX6_answerToRenew_15 : decode cX6_answerToRenew 15 = .ok (.getfield 98, 3) := by decide +kernel
theorem dX6_answerToRenew_18 : decode cX6_answerToRenew 18 = .ok (.iconst 1, 1) := by decide +kernel
theorem dX6_answerToRenew_19 : decode cX6_answerToRenew 19 = .ok (.invokevirtual 153, 3) := by decide +kernel
theorem dX6_answerToRenew_22 : decode cX6_answerToRenew 22 = .ok (.ifnonnull 10, 3) := by decide +kernel
theorem dX6_answerToRenew_25 : decode cX6_answerToRenew 25 = .ok (.aload_n 0, 1) := by decide +kernel
theorem dX6_answerToRenew_26 : decode cX6_answerToRenew 26 = .ok (.invokevirtual 195, 3) := by decide +kernel
theorem dX6_answerToRenew_29 : decode cX6_answerToRenew 29 = .ok (.ifCond .eq 8, 3) := by decide +kernel
theorem dX6_answerToRenew_32 : decode cX6_answerToRenew 32 = .ok (.aload_n 1, 1) := by decide +kernel
theorem dX6_answerToRenew_33 : decode cX6_answerToRenew 33 = .ok (.invokestatic 199, 3) := by decide +kernel
theorem dX6_answerToRenew_36 : decode cX6_answerToRenew 36 = .ok (.areturn, 1) := by decide +kernel
theorem dX6_answerToRenew_37 : decode cX6_answerToRenew 37 = .ok (.aload_n 0, 1) := by decide +kernel
theorem dX6_answerToRenew_38 : decode cX6_answerToRenew 38 = .ok (.invokevirtual 139, 3) := by decide +kernel
theorem dX6_answerToRenew_41 : decode cX6_answerToRenew 41 = .ok (.istore_n 3, 1) := by decide +kernel
theorem dX6_answerToRenew_42 : decode cX6_answerToRenew 42 = .ok (.aload_n 0, 1) := by decide +kernel
theorem dX6_answerToRenew_43 : decode cX6_answerToRenew 43 = .ok (.invokevirtual 142, 3) := by decide +kernel
theorem dX6_answerToRenew_46 : decode cX6_answerToRenew 46 = .ok (.istore 4, 2) := by decide +kernel
theorem dX6_answerToRenew_48 : decode cX6_answerToRenew 48 = .ok (.aload_n 0, 1) := by decide +kernel
theorem dX6_answerToRenew_49 : decode cX6_answerToRenew 49 = .ok (.new 96, 3) := by decide +kernel
theorem dX6_answerToRenew_52 : decode cX6_answerToRenew 52 = .ok (.dup, 1) := by decide +kernel
theorem dX6_answerToRenew_53 : decode cX6_answerToRenew 53 = .ok (.iload_n 3, 1) := by decide +kernel
theorem dX6_answerToRenew_54 : decode cX6_answerToRenew 54 = .ok (.aload_n 1, 1) := by decide +kernel
theorem dX6_answerToRenew_55 : decode cX6_answerToRenew 55 = .ok (.getfield 202, 3) := by decide +kernel
theorem dX6_answerToRenew_58 : decode cX6_answerToRenew 58 = .ok (.aload_n 2, 1) := by decide +kernel
theorem dX6_answerToRenew_59 : decode cX6_answerToRenew 59 = .ok (.getfield 104, 3) := by decide +kernel
theorem dX6_answerToRenew_62 : decode cX6_answerToRenew 62 = .ok (.aload_n 2, 1) := by decide +kernel
theorem dX6_answerToRenew_63 : decode cX6_answerToRenew 63 = .ok (.getfield 98, 3) := by decide +kernel
theorem dX6_answerToRenew_66 : decode cX6_answerToRenew 66 = .ok (.iconst 0, 1) := by decide +kernel
theorem dX6_answerToRenew_67 : decode cX6_answerToRenew 67 = .ok (.aload_n 1, 1) := by decide +kernel
theorem dX6_answerToRenew_68 : decode cX6_answerToRenew 68 = .ok (.getfield 203, 3) := by decide +kernel
theorem dX6_answerToRenew_71 : decode cX6_answerToRenew 71 = .ok (.iload 4, 2) := by decide +kernel
theorem dX6_answerToRenew_73 : decode cX6_answerToRenew 73 = .ok (.invokestatic 206, 3) := by decide +kernel
theorem dX6_answerToRenew_76 : decode cX6_answerToRenew 76 = .ok (.invokespecial 212, 3) := by decide +kernel
theorem dX6_answerToRenew_79 : decode cX6_answerToRenew 79 = .ok (.invokevirtual 215, 3) := by decide +kernel
theorem dX6_answerToRenew_82 : decode cX6_answerToRenew 82 = .ok (.new 170, 3) := by decide +kernel
theorem dX6_answerToRenew_85 : decode cX6_answerToRenew 85 = .ok (.dup, 1) := by decide +kernel
theorem dX6_answerToRenew_86 : decode cX6_answerToRenew 86 = .ok (.aload_n 1, 1) := by decide +kernel
theorem dX6_answerToRenew_87 : decode cX6_answerToRenew 87 = .ok (.iconst 0, 1) := by decide +kernel
theorem dX6_answerToRenew_88 : decode cX6_answerToRenew 88 = .ok (.iload_n 3, 1) := by decide +kernel
theorem dX6_answerToRenew_89 : decode cX6_answerToRenew 89 = .ok (.iload 4, 2) := by decide +kernel
theorem dX6_answerToRenew_91 : decode cX6_answerToRenew 91 = .ok (.aconst_null, 1) := by decide +kernel
theorem dX6_answerToRenew_92 : decode cX6_answerToRenew 92 = .ok (.invokespecial 219, 3) := by decide +kernel
theorem dX6_answerToRenew_95 : decode cX6_answerToRenew 95 = .ok (.areturn, 1) := by decide +kernel
theorem dX6_answerToDelete_0 : decode cX6_answerToDelete 0 = .ok (.aload_n 0, 1) := by decide +kernel
theorem dX6_answerToDelete_1 : decode cX6_answerToDelete 1 = .ok (.aload_n 1, 1) := by decide +kernel
theorem dX6_answerToDelete_2 : decode cX6_answerToDelete 2 = .ok (.invokevirtual 222, 3) := by decide +kernel
theorem dX6_answerToDelete_5 : decode cX6_answerToDelete 5 = .ok (.invokevirtual 225, 3) := by decide +kernel
theorem dX6_answerToDelete_8 : decode cX6_answerToDelete 8 = .ok (.astore_n 2, 1) := by decide +kernel
theorem dX6_answerToDelete_9 : decode cX6_answerToDelete 9 = .ok (.aload_n 2, 1) := by decide +kernel
theorem dX6_answerToDelete_10 : decode cX6_answerToDelete 10 = .ok (.ifnull 11, 3) := by decide +kernel
theorem dX6_answerToDelete_13 : decode cX6_answerToDelete 13 = .ok (.aload_n 0, 1) := by decide +kernel
theorem dX6_answerToDelete_14 : decode cX6_answerToDelete 14 = .ok (.aload_n 2, 1) := by decide +kernel
theorem dX6_answerToDelete_15 : decode cX6_answerToDelete 15 = .ok (.getfield 98, 3) := by decide +kernel
theorem dX6_answerToDelete_18 : decode cX6_answerToDelete 18 = .ok (.invokevirtual 228, 3) := by decide +kernel
theorem dX6_answerToDelete_21 : decode cX6_answerToDelete 21 = .ok (.new 170, 3) := by decide +kernel
theorem dX6_answerToDelete_24 : decode cX6_answerToDelete 24 = .ok (.dup, 1) := by decide +kernel
theorem dX6_answerToDelete_25 : decode cX6_answerToDelete 25 = .ok (.aload_n 1, 1) := by decide +kernel
theorem dX6_answerToDelete_26 : decode cX6_answerToDelete 26 = .ok (.iconst 0, 1) := by decide +kernel
theorem dX6_answerToDelete_27 : decode cX6_answerToDelete 27 = .ok (.iconst 0, 1) := by decide +kernel
theorem dX6_answerToDelete_28 : decode cX6_answerToDelete 28 = .ok (.iconst 0, 1) := by decide +kernel
theorem dX6_answerToDelete_29 : decode cX6_answerToDelete 29 = .ok (.aconst_null, 1) := by decide +kernel
theorem dX6_answerToDelete_30 : decode cX6_answerToDelete 30 = .ok (.invokespecial 219, 3) := by decide +kernel
theorem dX6_answerToDelete_33 : decode cX6_answerToDelete 33 = .ok (.areturn, 1) := by decide +kernel
theorem dX6_no_0 : decode cX6_no 0 = .ok (.new 170, 3) := by decide +kernel
theorem dX6_no_3 : decode cX6_no 3 = .ok (.dup, 1) := by decide +kernel
theorem dX6_no_4 : decode cX6_no 4 = .ok (.aload_n 0, 1) := by decide +kernel
theorem dX6_no_5 : decode cX6_no 5 = .ok (.iconst 1, 1) := by decide +kernel
theorem dX6_no_6 : decode cX6_no 6 = .ok (.iconst 0, 1) := by decide +kernel
theorem dX6_no_7 : decode cX6_no 7 = .ok (.iconst 0, 1) := by decide +kernel
theorem dX6_no_8 : decode cX6_no 8 = .ok (.aconst_null, 1) := by decide +kernel
theorem dX6_no_9 : decode cX6_no 9 = .ok (.invokespecial 219, 3) := by decide +kernel
theorem dX6_no_12 : decode cX6_no 12 = .ok (.areturn, 1) := by decide +kernel
theorem dX6_dealOn_0 : decode cX6_dealOn 0 = .ok (.aload_n 1, 1) := by decide +kernel
theorem dX6_dealOn_1 : decode cX6_dealOn 1 = .ok (.ifnonnull 5, 3) := by decide +kernel
theorem dX6_dealOn_4 : decode cX6_dealOn 4 = .ok (.aconst_null, 1) := by decide +kernel
theorem dX6_dealOn_5 : decode cX6_dealOn 5 = .ok (.areturn, 1) := by decide +kernel
theorem dX6_dealOn_6 : decode cX6_dealOn 6 = .ok (.aload_n 0, 1) := by decide +kernel
theorem dX6_dealOn_7 : decode cX6_dealOn 7 = .ok (.getfield 39, 3) := by decide +kernel
theorem dX6_dealOn_10 : decode cX6_dealOn 10 = .ok (.aload_n 1, 1) := by decide +kernel
theorem dX6_dealOn_11 : decode cX6_dealOn 11 = .ok (.getfield 232, 3) := by decide +kernel
theorem dX6_dealOn_14 : decode cX6_dealOn 14 = .ok (.invokestatic 233, 3) := by decide +kernel
theorem dX6_dealOn_17 : decode cX6_dealOn 17 = .ok (.istore_n 2, 1) := by decide +kernel
theorem dX6_dealOn_18 : decode cX6_dealOn 18 = .ok (.aload_n 0, 1) := by decide +kernel
theorem dX6_dealOn_19 : decode cX6_dealOn 19 = .ok (.getfield 42, 3) := by decide +kernel
theorem dX6_dealOn_22 : decode cX6_dealOn 22 = .ok (.aload_n 1, 1) := by decide +kernel
theorem dX6_dealOn_23 : decode cX6_dealOn 23 = .ok (.getfield 236, 3) := by decide +kernel
theorem dX6_dealOn_26 : decode cX6_dealOn 26 = .ok (.invokestatic 206, 3) := by decide +kernel
theorem dX6_dealOn_29 : decode cX6_dealOn 29 = .ok (.istore_n 3, 1) := by decide +kernel
theorem dX6_dealOn_30 : decode cX6_dealOn 30 = .ok (.iload_n 2, 1) := by decide +kernel
theorem dX6_dealOn_31 : decode cX6_dealOn 31 = .ok (.iload_n 3, 1) := by decide +kernel
theorem dX6_dealOn_32 : decode cX6_dealOn 32 = .ok (.if_icmp .le 5, 3) := by decide +kernel
theorem dX6_dealOn_35 : decode cX6_dealOn 35 = .ok (.aconst_null, 1) := by decide +kernel
theorem dX6_dealOn_36 : decode cX6_dealOn 36 = .ok (.areturn, 1) := by decide +kernel
theorem dX6_dealOn_37 : decode cX6_dealOn 37 = .ok (.iconst 0, 1) := by decide +kernel
theorem dX6_dealOn_38 : decode cX6_dealOn 38 = .ok (.istore 4, 2) := by decide +kernel
theorem dX6_dealOn_40 : decode cX6_dealOn 40 = .ok (.iload 4, 2) := by decide +kernel
theorem dX6_dealOn_42 : decode cX6_dealOn 42 = .ok (.aload_n 1, 1) := by decide +kernel
theorem dX6_dealOn_43 : decode cX6_dealOn 43 = .ok (.getfield 237, 3) := by decide +kernel
theorem dX6_dealOn_46 : decode cX6_dealOn 46 = .ok (.arraylength, 1) := by decide +kernel
theorem dX6_dealOn_47 : decode cX6_dealOn 47 = .ok (.if_icmp .ge 40, 3) := by decide +kernel
theorem dX6_dealOn_50 : decode cX6_dealOn 50 = .ok (.aload_n 0, 1) := by decide +kernel
theorem dX6_dealOn_51 : decode cX6_dealOn 51 = .ok (.aload_n 1, 1) := by decide +kernel
theorem dX6_dealOn_52 : decode cX6_dealOn 52 = .ok (.getfield 237, 3) := by decide +kernel
theorem dX6_dealOn_55 : decode cX6_dealOn 55 = .ok (.iload 4, 2) := by decide +kernel
theorem dX6_dealOn_57 : decode cX6_dealOn 57 = .ok (.iaload, 1) := by decide +kernel
theorem dX6_dealOn_58 : decode cX6_dealOn 58 = .ok (.invokevirtual 238, 3) := by decide +kernel
theorem dX6_dealOn_61 : decode cX6_dealOn 61 = .ok (.ifCond .eq 20, 3) := by decide +kernel
theorem dX6_dealOn_64 : decode cX6_dealOn 64 = .ok (.new 109, 3) := by decide +kernel
theorem dX6_dealOn_67 : decode cX6_dealOn 67 = .ok (.dup, 1) := by decide +kernel
theorem dX6_dealOn_68 : decode cX6_dealOn 68 = .ok (.aload_n 1, 1) := by decide +kernel
theorem dX6_dealOn_69 : decode cX6_dealOn 69 = .ok (.getfield 237, 3) := by decide +kernel
theorem dX6_dealOn_72 : decode cX6_dealOn 72 = .ok (.iload 4, 2) := by decide +kernel
theorem dX6_dealOn_74 : decode cX6_dealOn 74 = .ok (.iaload, 1) := by decide +kernel
theorem dX6_dealOn_75 : decode cX6_dealOn 75 = .ok (.iload_n 2, 1) := by decide +kernel
theorem dX6_dealOn_76 : decode cX6_dealOn 76 = .ok (.iload_n 3, 1) := by decide +kernel
theorem dX6_dealOn_77 : decode cX6_dealOn 77 = .ok (.invokespecial 242, 3) := by decide +kernel
theorem dX6_dealOn_80 : decode cX6_dealOn 80 = .ok (.areturn, 1) := by decide +kernel
theorem dX6_dealOn_81 : decode cX6_dealOn 81 = .ok (.iinc 4 1, 3) := by decide +kernel
theorem dX6_dealOn_84 : decode cX6_dealOn 84 = .ok (.goto (-44), 3) := by decide +kernel
theorem dX6_dealOn_87 : decode cX6_dealOn 87 = .ok (.aconst_null, 1) := by decide +kernel
theorem dX6_dealOn_88 : decode cX6_dealOn 88 = .ok (.areturn, 1) := by decide +kernel
theorem dX6_receiveAnswer_0 : decode cX6_receiveAnswer 0 = .ok (.aload_n 0, 1) := by decide +kernel
theorem dX6_receiveAnswer_1 : decode cX6_receiveAnswer 1 = .ok (.getfield 56, 3) := by decide +kernel
theorem dX6_receiveAnswer_4 : decode cX6_receiveAnswer 4 = .ok (.astore_n 2, 1) := by decide +kernel
theorem dX6_receiveAnswer_5 : decode cX6_receiveAnswer 5 = .ok (.aload_n 2, 1) := by decide +kernel
theorem dX6_receiveAnswer_6 : decode cX6_receiveAnswer 6 = .ok (.ifnull 14, 3) := by decide +kernel
theorem dX6_receiveAnswer_9 : decode cX6_receiveAnswer 9 = .ok (.aload_n 2, 1) := by decide +kernel
theorem dX6_receiveAnswer_10 : decode cX6_receiveAnswer 10 = .ok (.getfield 74, 3) := by decide +kernel
theorem dX6_receiveAnswer_13 : decode cX6_receiveAnswer 13 = .ok (.aload_n 1, 1) := by decide +kernel
theorem dX6_receiveAnswer_14 : decode cX6_receiveAnswer 14 = .ok (.getfield 176, 3) := by decide +kernel
theorem dX6_receiveAnswer_17 : decode cX6_receiveAnswer 17 = .ok (.if_icmp .eq 5, 3) := by decide +kernel
theorem dX6_receiveAnswer_20 : decode cX6_receiveAnswer 20 = .ok (.iconst 0, 1) := by decide +kernel
theorem dX6_receiveAnswer_21 : decode cX6_receiveAnswer 21 = .ok (.ireturn, 1) := by decide +kernel
theorem dX6_receiveAnswer_22 : decode cX6_receiveAnswer 22 = .ok (.aload_n 0, 1) := by decide +kernel
theorem dX6_receiveAnswer_23 : decode cX6_receiveAnswer 23 = .ok (.aconst_null, 1) := by decide +kernel
theorem dX6_receiveAnswer_24 : decode cX6_receiveAnswer 24 = .ok (.putfield 56, 3) := by decide +kernel
theorem dX6_receiveAnswer_27 : decode cX6_receiveAnswer 27 = .ok (.aload_n 1, 1) := by decide +kernel
theorem dX6_receiveAnswer_28 : decode cX6_receiveAnswer 28 = .ok (.getfield 245, 3) := by decide +kernel
theorem dX6_receiveAnswer_31 : decode cX6_receiveAnswer 31 = .ok (.ifCond .ne 9, 3) := by decide +kernel
theorem dX6_receiveAnswer_34 : decode cX6_receiveAnswer 34 = .ok (.aload_n 0, 1) := by decide +kernel
theorem dX6_receiveAnswer_35 : decode cX6_receiveAnswer 35 = .ok (.aload_n 2, 1) := by decide +kernel
theorem dX6_receiveAnswer_36 : decode cX6_receiveAnswer 36 = .ok (.aload_n 1, 1) := by decide +kernel
theorem dX6_receiveAnswer_37 : decode cX6_receiveAnswer 37 = .ok (.invokevirtual 247, 3) := by decide +kernel
theorem dX6_receiveAnswer_40 : decode cX6_receiveAnswer 40 = .ok (.iconst 3, 1) := by decide +kernel
theorem dX6_receiveAnswer_41 : decode cX6_receiveAnswer 41 = .ok (.ireturn, 1) := by decide +kernel
theorem dX6_settle_0 : decode cX6_settle 0 = .ok (.aload_n 1, 1) := by decide +kernel
theorem dX6_settle_1 : decode cX6_settle 1 = .ok (.getfield 79, 3) := by decide +kernel
theorem dX6_settle_4 : decode cX6_settle 4 = .ok (.ifCond .ne 51, 3) := by decide +kernel
theorem dX6_settle_7 : decode cX6_settle 7 = .ok (.aload_n 2, 1) := by decide +kernel
theorem dX6_settle_8 : decode cX6_settle 8 = .ok (.getfield 251, 3) := by decide +kernel
theorem dX6_settle_11 : decode cX6_settle 11 = .ok (.ifnull 44, 3) := by decide +kernel
theorem dX6_settle_14 : decode cX6_settle 14 = .ok (.aload_n 1, 1) := by decide +kernel
theorem dX6_settle_15 : decode cX6_settle 15 = .ok (.getfield 203, 3) := by decide +kernel
theorem dX6_settle_18 : decode cX6_settle 18 = .ok (.aload_n 2, 1) := by decide +kernel
theorem dX6_settle_19 : decode cX6_settle 19 = .ok (.getfield 252, 3) := by decide +kernel
theorem dX6_settle_22 : decode cX6_settle 22 = .ok (.invokestatic 206, 3) := by decide +kernel
theorem dX6_settle_25 : decode cX6_settle 25 = .ok (.istore_n 3, 1) := by decide +kernel
theorem dX6_settle_26 : decode cX6_settle 26 = .ok (.aload_n 0, 1) := by decide +kernel
theorem dX6_settle_27 : decode cX6_settle 27 = .ok (.new 96, 3) := by decide +kernel
theorem dX6_settle_30 : decode cX6_settle 30 = .ok (.dup, 1) := by decide +kernel
theorem dX6_settle_31 : decode cX6_settle 31 = .ok (.aload_n 1, 1) := by decide +kernel
theorem dX6_settle_32 : decode cX6_settle 32 = .ok (.getfield 202, 3) := by decide +kernel
theorem dX6_settle_35 : decode cX6_settle 35 = .ok (.aload_n 2, 1) := by decide +kernel
theorem dX6_settle_36 : decode cX6_settle 36 = .ok (.getfield 253, 3) := by decide +kernel
theorem dX6_settle_39 : decode cX6_settle 39 = .ok (.aload_n 2, 1) := by decide +kernel
theorem dX6_settle_40 : decode cX6_settle 40 = .ok (.getfield 251, 3) := by decide +kernel
theorem dX6_settle_43 : decode cX6_settle 43 = .ok (.iconst 0, 1) := by decide +kernel
theorem dX6_settle_44 : decode cX6_settle 44 = .ok (.iconst 1, 1) := by decide +kernel
theorem dX6_settle_45 : decode cX6_settle 45 = .ok (.iload_n 3, 1) := by decide +kernel
theorem dX6_settle_46 : decode cX6_settle 46 = .ok (.invokespecial 212, 3) := by decide +kernel
theorem dX6_settle_49 : decode cX6_settle 49 = .ok (.invokevirtual 215, 3) := by decide +kernel
theorem dX6_settle_52 : decode cX6_settle 52 = .ok (.goto 47, 3) := by decide +kernel
theorem dX6_settle_55 : decode cX6_settle 55 = .ok (.aload_n 1, 1) := by decide +kernel
theorem dX6_settle_56 : decode cX6_settle 56 = .ok (.getfield 79, 3) := by decide +kernel
theorem dX6_settle_59 : decode cX6_settle 59 = .ok (.iconst 1, 1) := by decide +kernel
theorem dX6_settle_60 : decode cX6_settle 60 = .ok (.if_icmp .ne 23, 3) := by decide +kernel
theorem dX6_settle_63 : decode cX6_settle 63 = .ok (.aload_n 1, 1) := by decide +kernel
theorem dX6_settle_64 : decode cX6_settle 64 = .ok (.getfield 254, 3) := by decide +kernel
theorem dX6_settle_67 : decode cX6_settle 67 = .ok (.ifnull 16, 3) := by decide +kernel
theorem dX6_settle_70 : decode cX6_settle 70 = .ok (.aload_n 0, 1) := by decide +kernel
theorem dX6_settle_71 : decode cX6_settle 71 = .ok (.aload_n 1, 1) := by decide +kernel
theorem dX6_settle_72 : decode cX6_settle 72 = .ok (.aload_n 2, 1) := by decide +kernel
theorem dX6_settle_73 : decode cX6_settle 73 = .ok (.aload_n 1, 1) := by decide +kernel
theorem dX6_settle_74 : decode cX6_settle 74 = .ok (.getfield 254, 3) := by decide +kernel
theorem dX6_settle_77 : decode cX6_settle 77 = .ok (.invokevirtual 258, 3) := by decide +kernel
theorem dX6_settle_80 : decode cX6_settle 80 = .ok (.goto 19, 3) := by decide +kernel
theorem dX6_settle_83 : decode cX6_settle 83 = .ok (.aload_n 1, 1) := by decide +kernel
theorem dX6_settle_84 : decode cX6_settle 84 = .ok (.getfield 79, 3) := by decide +kernel
theorem dX6_settle_87 : decode cX6_settle 87 = .ok (.iconst 2, 1) := by decide +kernel
theorem dX6_settle_88 : decode cX6_settle 88 = .ok (.if_icmp .ne 11, 3) := by decide +kernel
theorem dX6_settle_91 : decode cX6_settle 91 = .ok (.aload_n 0, 1) := by decide +kernel
theorem dX6_settle_92 : decode cX6_settle 92 = .ok (.aload_n 1, 1) := by decide +kernel
theorem dX6_settle_93 : decode cX6_settle 93 = .ok (.invokevirtual 222, 3) := by decide +kernel
theorem dX6_settle_96 : decode cX6_settle 96 = .ok (.invokevirtual 228, 3) := by decide +kernel
theorem dX6_settle_99 : decode cX6_settle 99 = .ok (.return_, 1) := by decide +kernel
theorem dX6_settleRenew_0 : decode cX6_settleRenew 0 = .ok (.aload_n 1, 1) := by decide +kernel
theorem dX6_settleRenew_1 : decode cX6_settleRenew 1 = .ok (.getfield 203, 3) := by decide +kernel
theorem dX6_settleRenew_4 : decode cX6_settleRenew 4 = .ok (.aload_n 2, 1) := by decide +kernel
theorem dX6_settleRenew_5 : decode cX6_settleRenew 5 = .ok (.getfield 252, 3) := by decide +kernel
theorem dX6_settleRenew_8 : decode cX6_settleRenew 8 = .ok (.invokestatic 206, 3) := by decide +kernel
theorem dX6_settleRenew_11 : decode cX6_settleRenew 11 = .ok (.istore 4, 2) := by decide +kernel
theorem dX6_settleRenew_13 : decode cX6_settleRenew 13 = .ok (.new 96, 3) := by decide +kernel
theorem dX6_settleRenew_16 : decode cX6_settleRenew 16 = .ok (.dup, 1) := by decide +kernel
theorem dX6_settleRenew_17 : decode cX6_settleRenew 17 = .ok (.aload_n 1, 1) := by decide +kernel
theorem dX6_settleRenew_18 : decode cX6_settleRenew 18 = .ok (.getfield 202, 3) := by decide +kernel
theorem dX6_settleRenew_21 : decode cX6_settleRenew 21 = .ok (.aload_n 2, 1) := by decide +kernel
theorem dX6_settleRenew_22 : decode cX6_settleRenew 22 = .ok (.getfield 253, 3) := by decide +kernel
theorem dX6_settleRenew_25 : decode cX6_settleRenew 25 = .ok (.aload_n 3, 1) := by decide +kernel
theorem dX6_settleRenew_26 : decode cX6_settleRenew 26 = .ok (.getfield 104, 3) := by decide +kernel
theorem dX6_settleRenew_29 : decode cX6_settleRenew 29 = .ok (.aload_n 3, 1) := by decide +kernel
theorem dX6_settleRenew_30 : decode cX6_settleRenew 30 = .ok (.getfield 98, 3) := by decide +kernel
theorem dX6_settleRenew_33 : decode cX6_settleRenew 33 = .ok (.iconst 1, 1) := by decide +kernel
theorem dX6_settleRenew_34 : decode cX6_settleRenew 34 = .ok (.iload 4, 2) := by decide +kernel
theorem dX6_settleRenew_36 : decode cX6_settleRenew 36 = .ok (.invokespecial 212, 3) := by decide +kernel
theorem dX6_settleRenew_39 : decode cX6_settleRenew 39 = .ok (.astore 5, 2) := by decide +kernel
theorem dX6_settleRenew_41 : decode cX6_settleRenew 41 = .ok (.aload_n 0, 1) := by decide +kernel
theorem dX6_settleRenew_42 : decode cX6_settleRenew 42 = .ok (.aload 5, 2) := by decide +kernel
theorem dX6_settleRenew_44 : decode cX6_settleRenew 44 = .ok (.invokevirtual 215, 3) := by decide +kernel
theorem dX6_settleRenew_47 : decode cX6_settleRenew 47 = .ok (.aload_n 0, 1) := by decide +kernel
theorem dX6_settleRenew_48 : decode cX6_settleRenew 48 = .ok (.aload_n 3, 1) := by decide +kernel
theorem dX6_settleRenew_49 : decode cX6_settleRenew 49 = .ok (.getfield 98, 3) := by decide +kernel
theorem dX6_settleRenew_52 : decode cX6_settleRenew 52 = .ok (.iconst 0, 1) := by decide +kernel
theorem dX6_settleRenew_53 : decode cX6_settleRenew 53 = .ok (.invokevirtual 153, 3) := by decide +kernel
theorem dX6_settleRenew_56 : decode cX6_settleRenew 56 = .ok (.astore 6, 2) := by decide +kernel
theorem dX6_settleRenew_58 : decode cX6_settleRenew 58 = .ok (.aload 6, 2) := by decide +kernel
theorem dX6_settleRenew_60 : decode cX6_settleRenew 60 = .ok (.ifnull 18, 3) := by decide +kernel
theorem dX6_settleRenew_63 : decode cX6_settleRenew 63 = .ok (.aload_n 0, 1) := by decide +kernel
theorem dX6_settleRenew_64 : decode cX6_settleRenew 64 = .ok (.aload 5, 2) := by decide +kernel
theorem dX6_settleRenew_66 : decode cX6_settleRenew 66 = .ok (.aload 6, 2) := by decide +kernel
theorem dX6_settleRenew_68 : decode cX6_settleRenew 68 = .ok (.invokevirtual 262, 3) := by decide +kernel
theorem dX6_settleRenew_71 : decode cX6_settleRenew 71 = .ok (.ifCond .eq 7, 3) := by decide +kernel
theorem dX6_settleRenew_74 : decode cX6_settleRenew 74 = .ok (.iconst 1, 1) := by decide +kernel
theorem dX6_settleRenew_75 : decode cX6_settleRenew 75 = .ok (.goto 4, 3) := by decide +kernel
theorem dX6_settleRenew_78 : decode cX6_settleRenew 78 = .ok (.iconst 0, 1) := by decide +kernel
theorem dX6_settleRenew_79 : decode cX6_settleRenew 79 = .ok (.istore 7, 2) := by decide +kernel
theorem dX6_settleRenew_81 : decode cX6_settleRenew 81 = .ok (.aload_n 0, 1) := by decide +kernel
theorem dX6_settleRenew_82 : decode cX6_settleRenew 82 = .ok (.getfield 22, 3) := by decide +kernel
theorem dX6_settleRenew_85 : decode cX6_settleRenew 85 = .ok (.new 117, 3) := by decide +kernel
theorem dX6_settleRenew_88 : decode cX6_settleRenew 88 = .ok (.dup, 1) := by decide +kernel
theorem dX6_settleRenew_89 : decode cX6_settleRenew 89 = .ok (.iconst 2, 1) := by decide +kernel
theorem dX6_settleRenew_90 : decode cX6_settleRenew 90 = .ok (.iload 7, 2) := by decide +kernel
theorem dX6_settleRenew_92 : decode cX6_settleRenew 92 = .ok (.ifCond .eq 11, 3) := by decide +kernel
theorem dX6_settleRenew_95 : decode cX6_settleRenew 95 = .ok (.aload 5, 2) := by decide +kernel
theorem dX6_settleRenew_97 : decode cX6_settleRenew 97 = .ok (.getfield 98, 3) := by decide +kernel
theorem dX6_settleRenew_100 : decode cX6_settleRenew 100 = .ok (.goto 7, 3) := by decide +kernel
theorem dX6_settleRenew_103 : decode cX6_settleRenew 103 = .ok (.aload_n 3, 1) := by decide +kernel
theorem dX6_settleRenew_104 : decode cX6_settleRenew 104 = .ok (.getfield 98, 3) := by decide +kernel
theorem dX6_settleRenew_107 : decode cX6_settleRenew 107 = .ok (.invokespecial 266, 3) := by decide +kernel
theorem dX6_settleRenew_110 : decode cX6_settleRenew 110 = .ok (.invokeinterface 269 2, 5) := by decide +kernel
theorem dX6_settleRenew_115 : decode cX6_settleRenew 115 = .ok (.pop, 1) := by decide +kernel
theorem dX6_settleRenew_116 : decode cX6_settleRenew 116 = .ok (.return_, 1) := by decide +kernel
theorem dX6_losesAgainst_0 : decode cX6_losesAgainst 0 = .ok (.aload_n 1, 1) := by decide +kernel
theorem dX6_losesAgainst_1 : decode cX6_losesAgainst 1 = .ok (.getfield 273, 3) := by decide +kernel
theorem dX6_losesAgainst_4 : decode cX6_losesAgainst 4 = .ok (.aload_n 2, 1) := by decide +kernel
theorem dX6_losesAgainst_5 : decode cX6_losesAgainst 5 = .ok (.getfield 273, 3) := by decide +kernel
theorem dX6_losesAgainst_8 : decode cX6_losesAgainst 8 = .ok (.if_icmp .ne 16, 3) := by decide +kernel
theorem dX6_losesAgainst_11 : decode cX6_losesAgainst 11 = .ok (.aload_n 0, 1) := by decide +kernel
theorem dX6_losesAgainst_12 : decode cX6_losesAgainst 12 = .ok (.getfield 25, 3) := by decide +kernel
theorem dX6_losesAgainst_15 : decode cX6_losesAgainst 15 = .ok (.ifCond .ne 7, 3) := by decide +kernel
theorem dX6_losesAgainst_18 : decode cX6_losesAgainst 18 = .ok (.iconst 1, 1) := by decide +kernel
theorem dX6_losesAgainst_19 : decode cX6_losesAgainst 19 = .ok (.goto 4, 3) := by decide +kernel
theorem dX6_losesAgainst_22 : decode cX6_losesAgainst 22 = .ok (.iconst 0, 1) := by decide +kernel
theorem dX6_losesAgainst_23 : decode cX6_losesAgainst 23 = .ok (.ireturn, 1) := by decide +kernel
theorem dX6_losesAgainst_24 : decode cX6_losesAgainst 24 = .ok (.aload_n 1, 1) := by decide +kernel
theorem dX6_losesAgainst_25 : decode cX6_losesAgainst 25 = .ok (.getfield 273, 3) := by decide +kernel
theorem dX6_losesAgainst_28 : decode cX6_losesAgainst 28 = .ok (.aload_n 2, 1) := by decide +kernel
theorem dX6_losesAgainst_29 : decode cX6_losesAgainst 29 = .ok (.getfield 273, 3) := by decide +kernel
theorem dX6_losesAgainst_32 : decode cX6_losesAgainst 32 = .ok (.if_icmp .ge 7, 3) := by decide +kernel
theorem dX6_losesAgainst_35 : decode cX6_losesAgainst 35 = .ok (.iconst 1, 1) := by decide +kernel
theorem dX6_losesAgainst_36 : decode cX6_losesAgainst 36 = .ok (.goto 4, 3) := by decide +kernel
theorem dX6_losesAgainst_39 : decode cX6_losesAgainst 39 = .ok (.iconst 0, 1) := by decide +kernel
theorem dX6_losesAgainst_40 : decode cX6_losesAgainst 40 = .ok (.ireturn, 1) := by decide +kernel
theorem dX6_newMark_0 : decode cX6_newMark 0 = .ok (.aload_n 0, 1) := by decide +kernel
theorem dX6_newMark_1 : decode cX6_newMark 1 = .ok (.getfield 48, 3) := by decide +kernel
theorem dX6_newMark_4 : decode cX6_newMark 4 = .ok (.istore_n 1, 1) := by decide +kernel
theorem dX6_newMark_5 : decode cX6_newMark 5 = .ok (.aload_n 0, 1) := by decide +kernel
theorem dX6_newMark_6 : decode cX6_newMark 6 = .ok (.dup, 1) := by decide +kernel
theorem dX6_newMark_7 : decode cX6_newMark 7 = .ok (.getfield 48, 3) := by decide +kernel
theorem dX6_newMark_10 : decode cX6_newMark 10 = .ok (.iconst 2, 1) := by decide +kernel
theorem dX6_newMark_11 : decode cX6_newMark 11 = .ok (.iadd, 1) := by decide +kernel
theorem dX6_newMark_12 : decode cX6_newMark 12 = .ok (.putfield 48, 3) := by decide +kernel
theorem dX6_newMark_15 : decode cX6_newMark 15 = .ok (.iload_n 1, 1) := by decide +kernel
theorem dX6_newMark_16 : decode cX6_newMark 16 = .ok (.ireturn, 1) := by decide +kernel
theorem dX6_newNonce_0 : decode cX6_newNonce 0 = .ok (.aload_n 0, 1) := by decide +kernel
theorem dX6_newNonce_1 : decode cX6_newNonce 1 = .ok (.aload_n 0, 1) := by decide +kernel
theorem dX6_newNonce_2 : decode cX6_newNonce 2 = .ok (.getfield 45, 3) := by decide +kernel
theorem dX6_newNonce_5 : decode cX6_newNonce 5 = .ok (.ldc_w 276, 3) := by decide +kernel
theorem dX6_newNonce_8 : decode cX6_newNonce 8 = .ok (.imul, 1) := by decide +kernel
theorem dX6_newNonce_9 : decode cX6_newNonce 9 = .ok (.ldc_w 277, 3) := by decide +kernel
theorem dX6_newNonce_12 : decode cX6_newNonce 12 = .ok (.iadd, 1) := by decide +kernel
theorem dX6_newNonce_13 : decode cX6_newNonce 13 = .ok (.putfield 45, 3) := by decide +kernel
theorem dX6_newNonce_16 : decode cX6_newNonce 16 = .ok (.aload_n 0, 1) := by decide +kernel
theorem dX6_newNonce_17 : decode cX6_newNonce 17 = .ok (.getfield 45, 3) := by decide +kernel
theorem dX6_newNonce_20 : decode cX6_newNonce 20 = .ok (.bipush 16, 2) := by decide +kernel
theorem dX6_newNonce_22 : decode cX6_newNonce 22 = .ok (.iushr, 1) := by decide +kernel
theorem dX6_newNonce_23 : decode cX6_newNonce 23 = .ok (.ireturn, 1) := by decide +kernel
theorem dX6_isFull_0 : decode cX6_isFull 0 = .ok (.aload_n 0, 1) := by decide +kernel
theorem dX6_isFull_1 : decode cX6_isFull 1 = .ok (.getfield 18, 3) := by decide +kernel
theorem dX6_isFull_4 : decode cX6_isFull 4 = .ok (.invokeinterface 88 1, 5) := by decide +kernel
theorem dX6_isFull_9 : decode cX6_isFull 9 = .ok (.bipush 16, 2) := by decide +kernel
theorem dX6_isFull_11 : decode cX6_isFull 11 = .ok (.if_icmp .lt 7, 3) := by decide +kernel
theorem dX6_isFull_14 : decode cX6_isFull 14 = .ok (.iconst 1, 1) := by decide +kernel
theorem dX6_isFull_15 : decode cX6_isFull 15 = .ok (.goto 4, 3) := by decide +kernel
theorem dX6_isFull_18 : decode cX6_isFull 18 = .ok (.iconst 0, 1) := by decide +kernel
theorem dX6_isFull_19 : decode cX6_isFull 19 = .ok (.ireturn, 1) := by decide +kernel
theorem dX6_keep_0 : decode cX6_keep 0 = .ok (.aload_n 0, 1) := by decide +kernel
theorem dX6_keep_1 : decode cX6_keep 1 = .ok (.getfield 18, 3) := by decide +kernel
theorem dX6_keep_4 : decode cX6_keep 4 = .ok (.invokeinterface 88 1, 5) := by decide +kernel
theorem dX6_keep_9 : decode cX6_keep 9 = .ok (.bipush 16, 2) := by decide +kernel
theorem dX6_keep_11 : decode cX6_keep 11 = .ok (.if_icmp .ge 14, 3) := by decide +kernel
theorem dX6_keep_14 : decode cX6_keep 14 = .ok (.aload_n 0, 1) := by decide +kernel
theorem dX6_keep_15 : decode cX6_keep 15 = .ok (.getfield 18, 3) := by decide +kernel
theorem dX6_keep_18 : decode cX6_keep 18 = .ok (.aload_n 1, 1) := by decide +kernel
theorem dX6_keep_19 : decode cX6_keep 19 = .ok (.invokeinterface 269 2, 5) := by decide +kernel
theorem dX6_keep_24 : decode cX6_keep 24 = .ok (.pop, 1) := by decide +kernel
theorem dX6_keep_25 : decode cX6_keep 25 = .ok (.return_, 1) := by decide +kernel
theorem dX6_drop_0 : decode cX6_drop 0 = .ok (.iconst 0, 1) := by decide +kernel
theorem dX6_drop_1 : decode cX6_drop 1 = .ok (.istore_n 2, 1) := by decide +kernel
theorem dX6_drop_2 : decode cX6_drop 2 = .ok (.iload_n 2, 1) := by decide +kernel
theorem dX6_drop_3 : decode cX6_drop 3 = .ok (.aload_n 0, 1) := by decide +kernel
theorem dX6_drop_4 : decode cX6_drop 4 = .ok (.getfield 18, 3) := by decide +kernel
theorem dX6_drop_7 : decode cX6_drop 7 = .ok (.invokeinterface 88 1, 5) := by decide +kernel
theorem dX6_drop_12 : decode cX6_drop 12 = .ok (.if_icmp .ge 41, 3) := by decide +kernel
theorem dX6_drop_15 : decode cX6_drop 15 = .ok (.aload_n 0, 1) := by decide +kernel
theorem dX6_drop_16 : decode cX6_drop 16 = .ok (.getfield 18, 3) := by decide +kernel
theorem dX6_drop_19 : decode cX6_drop 19 = .ok (.iload_n 2, 1) := by decide +kernel
theorem dX6_drop_20 : decode cX6_drop 20 = .ok (.invokeinterface 92 2, 5) := by decide +kernel
theorem dX6_drop_25 : decode cX6_drop 25 = .ok (.checkcast 96, 3) := by decide +kernel
theorem dX6_drop_28 : decode cX6_drop 28 = .ok (.getfield 98, 3) := by decide +kernel
theorem dX6_drop_31 : decode cX6_drop 31 = .ok (.iload_n 1, 1) := by decide +kernel
theorem dX6_drop_32 : decode cX6_drop 32 = .ok (.if_icmp .ne 15, 3) := by decide +kernel
theorem dX6_drop_35 : decode cX6_drop 35 = .ok (.aload_n 0, 1) := by decide +kernel
theorem dX6_drop_36 : decode cX6_drop 36 = .ok (.getfield 18, 3) := by decide +kernel
theorem dX6_drop_39 : decode cX6_drop 39 = .ok (.iload_n 2, 1) := by decide +kernel
theorem dX6_drop_40 : decode cX6_drop 40 = .ok (.invokeinterface 114 2, 5) := by decide +kernel
theorem dX6_drop_45 : decode cX6_drop 45 = .ok (.pop, 1) := by decide +kernel
theorem dX6_drop_46 : decode cX6_drop 46 = .ok (.return_, 1) := by decide +kernel
theorem dX6_drop_47 : decode cX6_drop 47 = .ok (.iinc 2 1, 3) := by decide +kernel
theorem dX6_drop_50 : decode cX6_drop 50 = .ok (.goto (-48), 3) := by decide +kernel
theorem dX6_drop_53 : decode cX6_drop 53 = .ok (.return_, 1) := by decide +kernel
theorem dX6_childOfMark_0 : decode cX6_childOfMark 0 = .ok (.iconst 0, 1) := by decide +kernel
theorem dX6_childOfMark_1 : decode cX6_childOfMark 1 = .ok (.istore_n 2, 1) := by decide +kernel
theorem dX6_childOfMark_2 : decode cX6_childOfMark 2 = .ok (.iload_n 2, 1) := by decide +kernel
theorem dX6_childOfMark_3 : decode cX6_childOfMark 3 = .ok (.aload_n 0, 1) := by decide +kernel
theorem dX6_childOfMark_4 : decode cX6_childOfMark 4 = .ok (.getfield 18, 3) := by decide +kernel
theorem dX6_childOfMark_7 : decode cX6_childOfMark 7 = .ok (.invokeinterface 88 1, 5) := by decide +kernel
theorem dX6_childOfMark_12 : decode cX6_childOfMark 12 = .ok (.if_icmp .ge 43, 3) := by decide +kernel
theorem dX6_childOfMark_15 : decode cX6_childOfMark 15 = .ok (.aload_n 0, 1) := by decide +kernel
theorem dX6_childOfMark_16 : decode cX6_childOfMark 16 = .ok (.getfield 18, 3) := by decide +kernel
theorem dX6_childOfMark_19 : decode cX6_childOfMark 19 = .ok (.iload_n 2, 1) := by decide +kernel
theorem dX6_childOfMark_20 : decode cX6_childOfMark 20 = .ok (.invokeinterface 92 2, 5) := by decide +kernel
theorem dX6_childOfMark_25 : decode cX6_childOfMark 25 = .ok (.checkcast 96, 3) := by decide +kernel
theorem dX6_childOfMark_28 : decode cX6_childOfMark 28 = .ok (.getfield 98, 3) := by decide +kernel
theorem dX6_childOfMark_31 : decode cX6_childOfMark 31 = .ok (.iload_n 1, 1) := by decide +kernel
theorem dX6_childOfMark_32 : decode cX6_childOfMark 32 = .ok (.if_icmp .ne 17, 3) := by decide +kernel
theorem dX6_childOfMark_35 : decode cX6_childOfMark 35 = .ok (.aload_n 0, 1) := by decide +kernel
theorem dX6_childOfMark_36 : decode cX6_childOfMark 36 = .ok (.getfield 18, 3) := by decide +kernel
theorem dX6_childOfMark_39 : decode cX6_childOfMark 39 = .ok (.iload_n 2, 1) := by decide +kernel
theorem dX6_childOfMark_40 : decode cX6_childOfMark 40 = .ok (.invokeinterface 92 2, 5) := by decide +kernel
theorem dX6_childOfMark_45 : decode cX6_childOfMark 45 = .ok (.checkcast 96, 3) := by decide +kernel
theorem dX6_childOfMark_48 : decode cX6_childOfMark 48 = .ok (.areturn, 1) := by decide +kernel
theorem dX6_childOfMark_49 : decode cX6_childOfMark 49 = .ok (.iinc 2 1, 3) := by decide +kernel
theorem dX6_childOfMark_52 : decode cX6_childOfMark 52 = .ok (.goto (-50), 3) := by decide +kernel
theorem dX6_childOfMark_55 : decode cX6_childOfMark 55 = .ok (.aconst_null, 1) := by decide +kernel
theorem dX6_childOfMark_56 : decode cX6_childOfMark 56 = .ok (.areturn, 1) := by decide +kernel
theorem dX6_childOfOtherMark_0 : decode cX6_childOfOtherMark 0 = .ok (.iconst 0, 1) := by decide +kernel
theorem dX6_childOfOtherMark_1 : decode cX6_childOfOtherMark 1 = .ok (.istore_n 2, 1) := by decide +kernel
theorem dX6_childOfOtherMark_2 : decode cX6_childOfOtherMark 2 = .ok (.iload_n 2, 1) := by decide +kernel
theorem dX6_childOfOtherMark_3 : decode cX6_childOfOtherMark 3 = .ok (.aload_n 0, 1) := by decide +kernel
theorem dX6_childOfOtherMark_4 : decode cX6_childOfOtherMark 4 = .ok (.getfield 18, 3) := by decide +kernel
theorem dX6_childOfOtherMark_7 : decode cX6_childOfOtherMark 7 = .ok (.invokeinterface 88 1, 5) := by decide +kernel
theorem dX6_childOfOtherMark_12 : decode cX6_childOfOtherMark 12 = .ok (.if_icmp .ge 43, 3) := by decide +kernel
theorem dX6_childOfOtherMark_15 : decode cX6_childOfOtherMark 15 = .ok (.aload_n 0, 1) := by decide +kernel
theorem dX6_childOfOtherMark_16 : decode cX6_childOfOtherMark 16 = .ok (.getfield 18, 3) := by decide +kernel
theorem dX6_childOfOtherMark_19 : decode cX6_childOfOtherMark 19 = .ok (.iload_n 2, 1) := by decide +kernel
theorem dX6_childOfOtherMark_20 : decode cX6_childOfOtherMark 20 = .ok (.invokeinterface 92 2, 5) := by decide +kernel
theorem dX6_childOfOtherMark_25 : decode cX6_childOfOtherMark 25 = .ok (.checkcast 96, 3) := by decide +kernel
theorem dX6_childOfOtherMark_28 : decode cX6_childOfOtherMark 28 = .ok (.getfield 101, 3) := by decide +kernel
theorem dX6_childOfOtherMark_31 : decode cX6_childOfOtherMark 31 = .ok (.iload_n 1, 1) := by decide +kernel
theorem dX6_childOfOtherMark_32 : decode cX6_childOfOtherMark 32 = .ok (.if_icmp .ne 17, 3) := by decide +kernel
theorem dX6_childOfOtherMark_35 : decode cX6_childOfOtherMark 35 = .ok (.aload_n 0, 1) := by decide +kernel
theorem dX6_childOfOtherMark_36 : decode cX6_childOfOtherMark 36 = .ok (.getfield 18, 3) := by decide +kernel
theorem dX6_childOfOtherMark_39 : decode cX6_childOfOtherMark 39 = .ok (.iload_n 2, 1) := by decide +kernel
theorem dX6_childOfOtherMark_40 : decode cX6_childOfOtherMark 40 = .ok (.invokeinterface 92 2, 5) := by decide +kernel
theorem dX6_childOfOtherMark_45 : decode cX6_childOfOtherMark 45 = .ok (.checkcast 96, 3) := by decide +kernel
theorem dX6_childOfOtherMark_48 : decode cX6_childOfOtherMark 48 = .ok (.areturn, 1) := by decide +kernel
theorem dX6_childOfOtherMark_49 : decode cX6_childOfOtherMark 49 = .ok (.iinc 2 1, 3) := by decide +kernel
