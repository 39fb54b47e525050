theorem dX6_childOfOtherMark_52 : decode cX6_childOfOtherMark 52 = .ok (.goto (-50), 3) := by decide +kernel
theorem dX6_childOfOtherMark_55 : decode cX6_childOfOtherMark 55 = .ok (.aconst_null, 1) := by decide +kernel
theorem dX6_childOfOtherMark_56 : decode cX6_childOfOtherMark 56 = .ok (.areturn, 1) := by decide +kernel
theorem dX6_renewalOf_0 : decode cX6_renewalOf 0 = .ok (.iconst 0, 1) := by decide +kernel
theorem dX6_renewalOf_1 : decode cX6_renewalOf 1 = .ok (.istore_n 3, 1) := by decide +kernel
theorem dX6_renewalOf_2 : decode cX6_renewalOf 2 = .ok (.iload_n 3, 1) := by decide +kernel
theorem dX6_renewalOf_3 : decode cX6_renewalOf 3 = .ok (.aload_n 0, 1) := by decide +kernel
theorem dX6_renewalOf_4 : decode cX6_renewalOf 4 = .ok (.getfield 18, 3) := by decide +kernel
theorem dX6_renewalOf_7 : decode cX6_renewalOf 7 = .ok (.invokeinterface 88 1, 5) := by decide +kernel
theorem dX6_renewalOf_12 : decode cX6_renewalOf 12 = .ok (.if_icmp .ge 45, 3) := by decide +kernel
theorem dX6_renewalOf_15 : decode cX6_renewalOf 15 = .ok (.aload_n 0, 1) := by decide +kernel
theorem dX6_renewalOf_16 : decode cX6_renewalOf 16 = .ok (.getfield 18, 3) := by decide +kernel
theorem dX6_renewalOf_19 : decode cX6_renewalOf 19 = .ok (.iload_n 3, 1) := by decide +kernel
theorem dX6_renewalOf_20 : decode cX6_renewalOf 20 = .ok (.invokeinterface 92 2, 5) := by decide +kernel
theorem dX6_renewalOf_25 : decode cX6_renewalOf 25 = .ok (.checkcast 96, 3) := by decide +kernel
theorem dX6_renewalOf_28 : decode cX6_renewalOf 28 = .ok (.astore 4, 2) := by decide +kernel
theorem dX6_renewalOf_30 : decode cX6_renewalOf 30 = .ok (.aload 4, 2) := by decide +kernel
theorem dX6_renewalOf_32 : decode cX6_renewalOf 32 = .ok (.getfield 278, 3) := by decide +kernel
theorem dX6_renewalOf_35 : decode cX6_renewalOf 35 = .ok (.iload_n 1, 1) := by decide +kernel
theorem dX6_renewalOf_36 : decode cX6_renewalOf 36 = .ok (.if_icmp .ne 15, 3) := by decide +kernel
theorem dX6_renewalOf_39 : decode cX6_renewalOf 39 = .ok (.aload 4, 2) := by decide +kernel
theorem dX6_renewalOf_41 : decode cX6_renewalOf 41 = .ok (.getfield 281, 3) := by decide +kernel
theorem dX6_renewalOf_44 : decode cX6_renewalOf 44 = .ok (.iload_n 2, 1) := by decide +kernel
theorem dX6_renewalOf_45 : decode cX6_renewalOf 45 = .ok (.if_icmp .ne 6, 3) := by decide +kernel
theorem dX6_renewalOf_48 : decode cX6_renewalOf 48 = .ok (.aload 4, 2) := by decide +kernel
theorem dX6_renewalOf_50 : decode cX6_renewalOf 50 = .ok (.areturn, 1) := by decide +kernel
theorem dX6_renewalOf_51 : decode cX6_renewalOf 51 = .ok (.iinc 3 1, 3) := by decide +kernel
theorem dX6_renewalOf_54 : decode cX6_renewalOf 54 = .ok (.goto (-52), 3) := by decide +kernel
theorem dX6_renewalOf_57 : decode cX6_renewalOf 57 = .ok (.aconst_null, 1) := by decide +kernel
theorem dX6_renewalOf_58 : decode cX6_renewalOf 58 = .ok (.areturn, 1) := by decide +kernel
theorem dX7_init_0 : decode cX7_init 0 = .ok (.aload_n 0, 1) := by decide +kernel
theorem dX7_init_1 : decode cX7_init 1 = .ok (.iload_n 1, 1) := by decide +kernel
theorem dX7_init_2 : decode cX7_init 2 = .ok (.iload_n 2, 1) := by decide +kernel
theorem dX7_init_3 : decode cX7_init 3 = .ok (.iload_n 3, 1) := by decide +kernel
theorem dX7_init_4 : decode cX7_init 4 = .ok (.iload 4, 2) := by decide +kernel
theorem dX7_init_6 : decode cX7_init 6 = .ok (.invokespecial 3, 3) := by decide +kernel
theorem dX7_init_9 : decode cX7_init 9 = .ok (.aload_n 0, 1) := by decide +kernel
theorem dX7_init_10 : decode cX7_init 10 = .ok (.aload 5, 2) := by decide +kernel
theorem dX7_init_12 : decode cX7_init 12 = .ok (.putfield 9, 3) := by decide +kernel
theorem dX7_init_15 : decode cX7_init 15 = .ok (.aload_n 0, 1) := by decide +kernel
theorem dX7_init_16 : decode cX7_init 16 = .ok (.aload 6, 2) := by decide +kernel
theorem dX7_init_18 : decode cX7_init 18 = .ok (.putfield 15, 3) := by decide +kernel
theorem dX7_init_21 : decode cX7_init 21 = .ok (.return_, 1) := by decide +kernel
theorem dX7_isRequest_0 : decode cX7_isRequest 0 = .ok (.iconst 1, 1) := by decide +kernel
theorem dX7_isRequest_1 : decode cX7_isRequest 1 = .ok (.ireturn, 1) := by decide +kernel
theorem dX7_isNo_0 : decode cX7_isNo 0 = .ok (.iconst 0, 1) := by decide +kernel
theorem dX7_isNo_1 : decode cX7_isNo 1 = .ok (.ireturn, 1) := by decide +kernel
theorem dX7_subjectMark_0 : decode cX7_subjectMark 0 = .ok (.aload_n 0, 1) := by decide +kernel
theorem dX7_subjectMark_1 : decode cX7_subjectMark 1 = .ok (.getfield 9, 3) := by decide +kernel
theorem dX7_subjectMark_4 : decode cX7_subjectMark 4 = .ok (.ifnonnull 7, 3) := by decide +kernel
theorem dX7_subjectMark_7 : decode cX7_subjectMark 7 = .ok (.iconst 0, 1) := by decide +kernel
theorem dX7_subjectMark_8 : decode cX7_subjectMark 8 = .ok (.goto 10, 3) := by decide +kernel
theorem dX7_subjectMark_11 : decode cX7_subjectMark 11 = .ok (.aload_n 0, 1) := by decide +kernel
theorem dX7_subjectMark_12 : decode cX7_subjectMark 12 = .ok (.getfield 9, 3) := by decide +kernel
theorem dX7_subjectMark_15 : decode cX7_subjectMark 15 = .ok (.getfield 19, 3) := by decide +kernel
theorem dX7_subjectMark_18 : decode cX7_subjectMark 18 = .ok (.ireturn, 1) := by decide +kernel
theorem dX8_init_0 : decode cX8_init 0 = .ok (.aload_n 0, 1) := by decide +kernel
theorem dX8_init_1 : decode cX8_init 1 = .ok (.invokespecial 1, 3) := by decide +kernel
theorem dX8_init_4 : decode cX8_init 4 = .ok (.aload_n 0, 1) := by decide +kernel
theorem dX8_init_5 : decode cX8_init 5 = .ok (.iload_n 1, 1) := by decide +kernel
theorem dX8_init_6 : decode cX8_init 6 = .ok (.putfield 7, 3) := by decide +kernel
theorem dX8_init_9 : decode cX8_init 9 = .ok (.aload_n 0, 1) := by decide +kernel
theorem dX8_init_10 : decode cX8_init 10 = .ok (.iload_n 2, 1) := by decide +kernel
theorem dX8_init_11 : decode cX8_init 11 = .ok (.putfield 13, 3) := by decide +kernel
theorem dX8_init_14 : decode cX8_init 14 = .ok (.return_, 1) := by decide +kernel
theorem dX9_init_0 : decode cX9_init 0 = .ok (.aload_n 0, 1) := by decide +kernel
theorem dX9_init_1 : decode cX9_init 1 = .ok (.invokespecial 1, 3) := by decide +kernel
theorem dX9_init_4 : decode cX9_init 4 = .ok (.aload_n 0, 1) := by decide +kernel
theorem dX9_init_5 : decode cX9_init 5 = .ok (.new 7, 3) := by decide +kernel
theorem dX9_init_8 : decode cX9_init 8 = .ok (.dup, 1) := by decide +kernel
theorem dX9_init_9 : decode cX9_init 9 = .ok (.invokespecial 9, 3) := by decide +kernel
theorem dX9_init_12 : decode cX9_init 12 = .ok (.putfield 10, 3) := by decide +kernel
theorem dX9_init_15 : decode cX9_init 15 = .ok (.aload_n 0, 1) := by decide +kernel
theorem dX9_init_16 : decode cX9_init 16 = .ok (.new 7, 3) := by decide +kernel
theorem dX9_init_19 : decode cX9_init 19 = .ok (.dup, 1) := by decide +kernel
theorem dX9_init_20 : decode cX9_init 20 = .ok (.invokespecial 9, 3) := by decide +kernel
theorem dX9_init_23 : decode cX9_init 23 = .ok (.putfield 16, 3) := by decide +kernel
theorem dX9_init_26 : decode cX9_init 26 = .ok (.aload_n 0, 1) := by decide +kernel
theorem dX9_init_27 : decode cX9_init 27 = .ok (.new 19, 3) := by decide +kernel
theorem dX9_init_30 : decode cX9_init 30 = .ok (.dup, 1) := by decide +kernel
theorem dX9_init_31 : decode cX9_init 31 = .ok (.iconst 0, 1) := by decide +kernel
theorem dX9_init_32 : decode cX9_init 32 = .ok (.aload_n 0, 1) := by decide +kernel
theorem dX9_init_33 : decode cX9_init 33 = .ok (.getfield 16, 3) := by decide +kernel
theorem dX9_init_36 : decode cX9_init 36 = .ok (.invokespecial 21, 3) := by decide +kernel
theorem dX9_init_39 : decode cX9_init 39 = .ok (.putfield 24, 3) := by decide +kernel
theorem dX9_init_42 : decode cX9_init 42 = .ok (.aload_n 0, 1) := by decide +kernel
theorem dX9_init_43 : decode cX9_init 43 = .ok (.new 19, 3) := by decide +kernel
theorem dX9_init_46 : decode cX9_init 46 = .ok (.dup, 1) := by decide +kernel
theorem dX9_init_47 : decode cX9_init 47 = .ok (.iconst 1, 1) := by decide +kernel
theorem dX9_init_48 : decode cX9_init 48 = .ok (.aload_n 0, 1) := by decide +kernel
theorem dX9_init_49 : decode cX9_init 49 = .ok (.getfield 10, 3) := by decide +kernel
theorem dX9_init_52 : decode cX9_init 52 = .ok (.invokespecial 21, 3) := by decide +kernel
theorem dX9_init_55 : decode cX9_init 55 = .ok (.putfield 28, 3) := by decide +kernel
theorem dX9_init_58 : decode cX9_init 58 = .ok (.return_, 1) := by decide +kernel
theorem dX9_suite_0 : decode cX9_suite 0 = .ok (.aload_n 0, 1) := by decide +kernel
theorem dX9_suite_1 : decode cX9_suite 1 = .ok (.iload_n 1, 1) := by decide +kernel
theorem dX9_suite_2 : decode cX9_suite 2 = .ok (.invokevirtual 31, 3) := by decide +kernel
theorem dX9_suite_5 : decode cX9_suite 5 = .ok (.astore_n 3, 1) := by decide +kernel
theorem dX9_suite_6 : decode cX9_suite 6 = .ok (.iload_n 2, 1) := by decide +kernel
theorem dX9_suite_7 : decode cX9_suite 7 = .ok (.iconst 1, 1) := by decide +kernel
theorem dX9_suite_8 : decode cX9_suite 8 = .ok (.if_icmp .lt 17, 3) := by decide +kernel
theorem dX9_suite_11 : decode cX9_suite 11 = .ok (.iload_n 2, 1) := by decide +kernel
theorem dX9_suite_12 : decode cX9_suite 12 = .ok (.bipush 9, 2) := by decide +kernel
theorem dX9_suite_14 : decode cX9_suite 14 = .ok (.if_icmp .gt 11, 3) := by decide +kernel
theorem dX9_suite_17 : decode cX9_suite 17 = .ok (.aload_n 3, 1) := by decide +kernel
theorem dX9_suite_18 : decode cX9_suite 18 = .ok (.iload_n 2, 1) := by decide +kernel
theorem dX9_suite_19 : decode cX9_suite 19 = .ok (.invokevirtual 35, 3) := by decide +kernel
theorem dX9_suite_22 : decode cX9_suite 22 = .ok (.ifCond .eq 11, 3) := by decide +kernel
theorem dX9_suite_25 : decode cX9_suite 25 = .ok (.new 39, 3) := by decide +kernel
theorem dX9_suite_28 : decode cX9_suite 28 = .ok (.dup, 1) := by decide +kernel
theorem dX9_suite_29 : decode cX9_suite 29 = .ok (.invokespecial 41, 3) := by decide +kernel
theorem dX9_suite_32 : decode cX9_suite 32 = .ok (.athrow, 1) := by decide +kernel
theorem dX9_suite_33 : decode cX9_suite 33 = .ok (.aload_n 3, 1) := by decide +kernel
theorem dX9_suite_34 : decode cX9_suite 34 = .ok (.getfield 42, 3) := by decide +kernel
theorem dX9_suite_37 : decode cX9_suite 37 = .ok (.iconst 4, 1) := by decide +kernel
theorem dX9_suite_38 : decode cX9_suite 38 = .ok (.if_icmp .lt 11, 3) := by decide +kernel
theorem dX9_suite_41 : decode cX9_suite 41 = .ok (.new 46, 3) := by decide +kernel
theorem dX9_suite_44 : decode cX9_suite 44 = .ok (.dup, 1) := by decide +kernel
theorem dX9_suite_45 : decode cX9_suite 45 = .ok (.invokespecial 48, 3) := by decide +kernel
theorem dX9_suite_48 : decode cX9_suite 48 = .ok (.athrow, 1) := by decide +kernel
theorem dX9_suite_49 : decode cX9_suite 49 = .ok (.aload_n 3, 1) := by decide +kernel
theorem dX9_suite_50 : decode cX9_suite 50 = .ok (.iload_n 2, 1) := by decide +kernel
theorem dX9_suite_51 : decode cX9_suite 51 = .ok (.invokevirtual 49, 3) := by decide +kernel
theorem dX9_suite_54 : decode cX9_suite 54 = .ok (.aload_n 3, 1) := by decide +kernel
theorem dX9_suite_55 : decode cX9_suite 55 = .ok (.getfield 42, 3) := by decide +kernel
theorem dX9_suite_58 : decode cX9_suite 58 = .ok (.ireturn, 1) := by decide +kernel
theorem dX9_range_0 : decode cX9_range 0 = .ok (.aload_n 0, 1) := by decide +kernel
theorem dX9_range_1 : decode cX9_range 1 = .ok (.iload_n 1, 1) := by decide +kernel
theorem dX9_range_2 : decode cX9_range 2 = .ok (.invokevirtual 31, 3) := by decide +kernel
theorem dX9_range_5 : decode cX9_range 5 = .ok (.astore 4, 2) := by decide +kernel
theorem dX9_range_7 : decode cX9_range 7 = .ok (.iload_n 2, 1) := by decide +kernel
theorem dX9_range_8 : decode cX9_range 8 = .ok (.ifCond .lt 15, 3) := by decide +kernel
theorem dX9_range_11 : decode cX9_range 11 = .ok (.iload_n 3, 1) := by decide +kernel
theorem dX9_range_12 : decode cX9_range 12 = .ok (.sipush 1000, 3) := by decide +kernel
theorem dX9_range_15 : decode cX9_range 15 = .ok (.if_icmp .gt 8, 3) := by decide +kernel
theorem dX9_range_18 : decode cX9_range 18 = .ok (.iload_n 2, 1) := by decide +kernel
theorem dX9_range_19 : decode cX9_range 19 = .ok (.iload_n 3, 1) := by decide +kernel
theorem dX9_range_20 : decode cX9_range 20 = .ok (.if_icmp .le 11, 3) := by decide +kernel
theorem dX9_range_23 : decode cX9_range 23 = .ok (.new 39, 3) := by decide +kernel
theorem dX9_range_26 : decode cX9_range 26 = .ok (.dup, 1) := by decide +kernel
theorem dX9_range_27 : decode cX9_range 27 = .ok (.invokespecial 41, 3) := by decide +kernel
theorem dX9_range_30 : decode cX9_range 30 = .ok (.athrow, 1) := by decide +kernel
theorem dX9_range_31 : decode cX9_range 31 = .ok (.aload 4, 2) := by decide +kernel
theorem dX9_range_33 : decode cX9_range 33 = .ok (.iload_n 2, 1) := by decide +kernel
theorem dX9_range_34 : decode cX9_range 34 = .ok (.putfield 53, 3) := by decide +kernel
theorem dX9_range_37 : decode cX9_range 37 = .ok (.aload 4, 2) := by decide +kernel
theorem dX9_range_39 : decode cX9_range 39 = .ok (.iload_n 3, 1) := by decide +kernel
theorem dX9_range_40 : decode cX9_range 40 = .ok (.putfield 56, 3) := by decide +kernel
theorem dX9_range_43 : decode cX9_range 43 = .ok (.iload_n 3, 1) := by decide +kernel
theorem dX9_range_44 : decode cX9_range 44 = .ok (.iload_n 2, 1) := by decide +kernel
theorem dX9_range_45 : decode cX9_range 45 = .ok (.isub, 1) := by decide +kernel
theorem dX9_range_46 : decode cX9_range 46 = .ok (.iconst 1, 1) := by decide +kernel
theorem dX9_range_47 : decode cX9_range 47 = .ok (.iadd, 1) := by decide +kernel
theorem dX9_range_48 : decode cX9_range 48 = .ok (.ireturn, 1) := by decide +kernel
theorem dX9_seed_0 : decode cX9_seed 0 = .ok (.aload_n 0, 1) := by decide +kernel
theorem dX9_seed_1 : decode cX9_seed 1 = .ok (.iload_n 1, 1) := by decide +kernel
theorem dX9_seed_2 : decode cX9_seed 2 = .ok (.invokevirtual 31, 3) := by decide +kernel
theorem dX9_seed_5 : decode cX9_seed 5 = .ok (.iload_n 2, 1) := by decide +kernel
theorem dX9_seed_6 : decode cX9_seed 6 = .ok (.putfield 59, 3) := by decide +kernel
theorem dX9_seed_9 : decode cX9_seed 9 = .ok (.return_, 1) := by decide +kernel
theorem dX9_wish_0 : decode cX9_wish 0 = .ok (.aload_n 0, 1) := by decide +kernel
theorem dX9_wish_1 : decode cX9_wish 1 = .ok (.iload_n 1, 1) := by decide +kernel
theorem dX9_wish_2 : decode cX9_wish 2 = .ok (.invokevirtual 31, 3) := by decide +kernel
theorem dX9_wish_5 : decode cX9_wish 5 = .ok (.astore 4, 2) := by decide +kernel
theorem dX9_wish_7 : decode cX9_wish 7 = .ok (.iload_n 2, 1) := by decide +kernel
theorem dX9_wish_8 : decode cX9_wish 8 = .ok (.iconst 1, 1) := by decide +kernel
theorem dX9_wish_9 : decode cX9_wish 9 = .ok (.if_icmp .eq 8, 3) := by decide +kernel
theorem dX9_wish_12 : decode cX9_wish 12 = .ok (.iload_n 2, 1) := by decide +kernel
theorem dX9_wish_13 : decode cX9_wish 13 = .ok (.iconst 2, 1) := by decide +kernel
theorem dX9_wish_14 : decode cX9_wish 14 = .ok (.if_icmp .ne 15, 3) := by decide +kernel
theorem dX9_wish_17 : decode cX9_wish 17 = .ok (.aload 4, 2) := by decide +kernel
theorem dX9_wish_19 : decode cX9_wish 19 = .ok (.iload_n 3, 1) := by decide +kernel
theorem dX9_wish_20 : decode cX9_wish 20 = .ok (.invokestatic 62, 3) := by decide +kernel
theorem dX9_wish_23 : decode cX9_wish 23 = .ok (.getfield 66, 3) := by decide +kernel
theorem dX9_wish_26 : decode cX9_wish 26 = .ok (.goto 4, 3) := by decide +kernel
theorem dX9_wish_29 : decode cX9_wish 29 = .ok (.iconst 0, 1) := by decide +kernel
theorem dX9_wish_30 : decode cX9_wish 30 = .ok (.istore 5, 2) := by decide +kernel
theorem dX9_wish_32 : decode cX9_wish 32 = .ok (.iload_n 2, 1) := by decide +kernel
theorem dX9_wish_33 : decode cX9_wish 33 = .ok (.ifCond .lt 8, 3) := by decide +kernel
theorem dX9_wish_36 : decode cX9_wish 36 = .ok (.iload_n 2, 1) := by decide +kernel
theorem dX9_wish_37 : decode cX9_wish 37 = .ok (.iconst 2, 1) := by decide +kernel
theorem dX9_wish_38 : decode cX9_wish 38 = .ok (.if_icmp .le 11, 3) := by decide +kernel
theorem dX9_wish_41 : decode cX9_wish 41 = .ok (.new 39, 3) := by decide +kernel
theorem dX9_wish_44 : decode cX9_wish 44 = .ok (.dup, 1) := by decide +kernel
theorem dX9_wish_45 : decode cX9_wish 45 = .ok (.invokespecial 41, 3) := by decide +kernel
theorem dX9_wish_48 : decode cX9_wish 48 = .ok (.athrow, 1) := by decide +kernel
theorem dX9_wish_49 : decode cX9_wish 49 = .ok (.aload 4, 2) := by decide +kernel
theorem dX9_wish_51 : decode cX9_wish 51 = .ok (.getfield 71, 3) := by decide +kernel
theorem dX9_wish_54 : decode cX9_wish 54 = .ok (.ifCond .eq 11, 3) := by decide +kernel
theorem dX9_wish_57 : decode cX9_wish 57 = .ok (.new 75, 3) := by decide +kernel
theorem dX9_wish_60 : decode cX9_wish 60 = .ok (.dup, 1) := by decide +kernel
theorem dX9_wish_61 : decode cX9_wish 61 = .ok (.invokespecial 77, 3) := by decide +kernel
theorem dX9_wish_64 : decode cX9_wish 64 = .ok (.athrow, 1) := by decide +kernel
theorem dX9_wish_65 : decode cX9_wish 65 = .ok (.aload 4, 2) := by decide +kernel
theorem dX9_wish_67 : decode cX9_wish 67 = .ok (.getfield 78, 3) := by decide +kernel
theorem dX9_wish_70 : decode cX9_wish 70 = .ok (.invokeinterface 82 1, 5) := by decide +kernel
theorem dX9_wish_75 : decode cX9_wish 75 = .ok (.bipush 10, 2) := by decide +kernel
theorem dX9_wish_77 : decode cX9_wish 77 = .ok (.if_icmp .lt 11, 3) := by decide +kernel
theorem dX9_wish_80 : decode cX9_wish 80 = .ok (.new 46, 3) := by decide +kernel
theorem dX9_wish_83 : decode cX9_wish 83 = .ok (.dup, 1) := by decide +kernel
theorem dX9_wish_84 : decode cX9_wish 84 = .ok (.invokespecial 48, 3) := by decide +kernel
theorem dX9_wish_87 : decode cX9_wish 87 = .ok (.athrow, 1) := by decide +kernel
theorem dX9_wish_88 : decode cX9_wish 88 = .ok (.aload 4, 2) := by decide +kernel
theorem dX9_wish_90 : decode cX9_wish 90 = .ok (.getfield 78, 3) := by decide +kernel
theorem dX9_wish_93 : decode cX9_wish 93 = .ok (.new 88, 3) := by decide +kernel
theorem dX9_wish_96 : decode cX9_wish 96 = .ok (.dup, 1) := by decide +kernel
theorem dX9_wish_97 : decode cX9_wish 97 = .ok (.iload_n 2, 1) := by decide +kernel
theorem dX9_wish_98 : decode cX9_wish 98 = .ok (.iload 5, 2) := by decide +kernel
theorem dX9_wish_100 : decode cX9_wish 100 = .ok (.invokespecial 90, 3) := by decide +kernel
theorem dX9_wish_103 : decode cX9_wish 103 = .ok (.invokeinterface 93 2, 5) := by decide +kernel
theorem dX9_wish_108 : decode cX9_wish 108 = .ok (.pop, 1) := by decide +kernel
theorem dX9_wish_109 : decode cX9_wish 109 = .ok (.aload 4, 2) := by decide +kernel
theorem dX9_wish_111 : decode cX9_wish 111 = .ok (.getfield 78, 3) := by decide +kernel
theorem dX9_wish_114 : decode cX9_wish 114 = .ok (.invokeinterface 82 1, 5) := by decide +kernel
theorem dX9_wish_119 : decode cX9_wish 119 = .ok (.istore 6, 2) := by decide +kernel
theorem dX9_wish_121 : decode cX9_wish 121 = .ok (.aload_n 0, 1) := by decide +kernel
theorem dX9_wish_122 : decode cX9_wish 122 = .ok (.invokevirtual 97, 3) := by decide +kernel
theorem dX9_wish_125 : decode cX9_wish 125 = .ok (.iload 6, 2) := by decide +kernel
theorem dX9_wish_127 : decode cX9_wish 127 = .ok (.ireturn, 1) := by decide +kernel
theorem dX9_deliver_0 : decode cX9_deliver 0 = .ok (.aload_n 0, 1) := by decide +kernel
theorem dX9_deliver_1 : decode cX9_deliver 1 = .ok (.iload_n 1, 1) := by decide +kernel
theorem dX9_deliver_2 : decode cX9_deliver 2 = .ok (.invokevirtual 31, 3) := by decide +kernel
theorem dX9_deliver_5 : decode cX9_deliver 5 = .ok (.astore_n 3, 1) := by decide +kernel
theorem dX9_deliver_6 : decode cX9_deliver 6 = .ok (.aload_n 0, 1) := by decide +kernel
theorem dX9_deliver_7 : decode cX9_deliver 7 = .ok (.iload_n 1, 1) := by decide +kernel
theorem dX9_deliver_8 : decode cX9_deliver 8 = .ok (.invokevirtual 100, 3) := by decide +kernel
theorem dX9_deliver_11 : decode cX9_deliver 11 = .ok (.astore 4, 2) := by decide +kernel
theorem dX9_deliver_13 : decode cX9_deliver 13 = .ok (.aload 4, 2) := by decide +kernel
theorem dX9_deliver_15 : decode cX9_deliver 15 = .ok (.iload_n 2, 1) := by decide +kernel
theorem dX9_deliver_16 : decode cX9_deliver 16 = .ok (.invokestatic 104, 3) := by decide +kernel
theorem dX9_deliver_19 : decode cX9_deliver 19 = .ok (.astore 5, 2) := by decide +kernel
theorem dX9_deliver_21 : decode cX9_deliver 21 = .ok (.aload 4, 2) := by decide +kernel
theorem dX9_deliver_23 : decode cX9_deliver 23 = .ok (.getfield 108, 3) := by decide +kernel
theorem dX9_deliver_26 : decode cX9_deliver 26 = .ok (.iload_n 2, 1) := by decide +kernel
theorem dX9_deliver_27 : decode cX9_deliver 27 = .ok (.invokeinterface 111 2, 5) := by decide +kernel
theorem dX9_deliver_32 : decode cX9_deliver 32 = .ok (.pop, 1) := by decide +kernel
theorem dX9_deliver_33 : decode cX9_deliver 33 = .ok (.aload_n 3, 1) := by decide +kernel
theorem dX9_deliver_34 : decode cX9_deliver 34 = .ok (.aload 5, 2) := by decide +kernel
theorem dX9_deliver_36 : decode cX9_deliver 36 = .ok (.invokevirtual 115, 3) := by decide +kernel
theorem dX9_deliver_39 : decode cX9_deliver 39 = .ok (.istore 6, 2) := by decide +kernel
theorem dX9_deliver_41 : decode cX9_deliver 41 = .ok (.aload_n 0, 1) := by decide +kernel
theorem dX9_deliver_42 : decode cX9_deliver 42 = .ok (.invokevirtual 97, 3) := by decide +kernel
theorem dX9_deliver_45 : decode cX9_deliver 45 = .ok (.iload 6, 2) := by decide +kernel
theorem dX9_deliver_47 : decode cX9_deliver 47 = .ok (.ireturn, 1) := by decide +kernel
theorem dX9_lose_0 : decode cX9_lose 0 = .ok (.aload_n 0, 1) := by decide +kernel
theorem dX9_lose_1 : decode cX9_lose 1 = .ok (.iload_n 1, 1) := by decide +kernel
theorem dX9_lose_2 : decode cX9_lose 2 = .ok (.invokevirtual 100, 3) := by decide +kernel
theorem dX9_lose_5 : decode cX9_lose 5 = .ok (.astore_n 3, 1) := by decide +kernel
theorem dX9_lose_6 : decode cX9_lose 6 = .ok (.aload_n 3, 1) := by decide +kernel
theorem dX9_lose_7 : decode cX9_lose 7 = .ok (.iload_n 2, 1) := by decide +kernel
theorem dX9_lose_8 : decode cX9_lose 8 = .ok (.invokestatic 104, 3) := by decide +kernel
theorem dX9_lose_11 : decode cX9_lose 11 = .ok (.pop, 1) := by decide +kernel
theorem dX9_lose_12 : decode cX9_lose 12 = .ok (.aload_n 3, 1) := by decide +kernel
theorem dX9_lose_13 : decode cX9_lose 13 = .ok (.getfield 108, 3) := by decide +kernel
theorem dX9_lose_16 : decode cX9_lose 16 = .ok (.iload_n 2, 1) := by decide +kernel
theorem dX9_lose_17 : decode cX9_lose 17 = .ok (.invokeinterface 111 2, 5) := by decide +kernel
theorem dX9_lose_22 : decode cX9_lose 22 = .ok (.pop, 1) := by decide +kernel
theorem dX9_lose_23 : decode cX9_lose 23 = .ok (.aload_n 3, 1) := by decide +kernel
theorem dX9_lose_24 : decode cX9_lose 24 = .ok (.getfield 108, 3) := by decide +kernel
theorem dX9_lose_27 : decode cX9_lose 27 = .ok (.invokeinterface 82 1, 5) := by decide +kernel
theorem dX9_lose_32 : decode cX9_lose 32 = .ok (.ireturn, 1) := by decide +kernel
theorem dX9_twice_0 : decode cX9_twice 0 = .ok (.aload_n 0, 1) := by decide +kernel
theorem dX9_twice_1 : decode cX9_twice 1 = .ok (.iload_n 1, 1) := by decide +kernel
theorem dX9_twice_2 : decode cX9_twice 2 = .ok (.invokevirtual 100, 3) := by decide +kernel
theorem dX9_twice_5 : decode cX9_twice 5 = .ok (.astore_n 3, 1) := by decide +kernel
theorem dX9_twice_6 : decode cX9_twice 6 = .ok (.aload_n 3, 1) := by decide +kernel
theorem dX9_twice_7 : decode cX9_twice 7 = .ok (.aload_n 3, 1) := by decide +kernel
theorem dX9_twice_8 : decode cX9_twice 8 = .ok (.iload_n 2, 1) := by decide +kernel
theorem dX9_twice_9 : decode cX9_twice 9 = .ok (.invokestatic 104, 3) := by decide +kernel
theorem dX9_twice_12 : decode cX9_twice 12 = .ok (.invokevirtual 119, 3) := by decide +kernel
theorem dX9_twice_15 : decode cX9_twice 15 = .ok (.aload_n 3, 1) := by decide +kernel
theorem dX9_twice_16 : decode cX9_twice 16 = .ok (.getfield 108, 3) := by decide +kernel
theorem dX9_twice_19 : decode cX9_twice 19 = .ok (.invokeinterface 82 1, 5) := by decide +kernel
theorem dX9_twice_24 : decode cX9_twice 24 = .ok (.ireturn, 1) := by decide +kernel
theorem dX9_tick_0 : decode cX9_tick 0 = .ok (.iload_n 1, 1) := by decide +kernel
theorem dX9_tick_1 : decode cX9_tick 1 = .ok (.ifCond .lt 10, 3) := by decide +kernel
theorem dX9_tick_4 : decode cX9_tick 4 = .ok (.iload_n 1, 1) := by decide +kernel
theorem dX9_tick_5 : decode cX9_tick 5 = .ok (.sipush 1000, 3) := by decide +kernel
theorem dX9_tick_8 : decode cX9_tick 8 = .ok (.if_icmp .le 11, 3) := by decide +kernel
theorem dX9_tick_11 : decode cX9_tick 11 = .ok (.new 39, 3) := by decide +kernel
theorem dX9_tick_14 : decode cX9_tick 14 = .ok (.dup, 1) := by decide +kernel
theorem dX9_tick_15 : decode cX9_tick 15 = .ok (.invokespecial 41, 3) := by decide +kernel
theorem dX9_tick_18 : decode cX9_tick 18 = .ok (.athrow, 1) := by decide +kernel
theorem dX9_tick_19 : decode cX9_tick 19 = .ok (.iconst 0, 1) := by decide +kernel
theorem dX9_tick_20 : decode cX9_tick 20 = .ok (.istore_n 2, 1) := by decide +kernel
theorem dX9_tick_21 : decode cX9_tick 21 = .ok (.iconst 0, 1) := by decide +kernel
theorem dX9_tick_22 : decode cX9_tick 22 = .ok (.istore_n 3, 1) := by decide +kernel
theorem dX9_tick_23 : decode cX9_tick 23 = .ok (.iload_n 3, 1) := by decide +kernel
theorem dX9_tick_24 : decode cX9_tick 24 = .ok (.iload_n 1, 1) := by decide +kernel
theorem dX9_tick_25 : decode cX9_tick 25 = .ok (.if_icmp .ge 29, 3) := by decide +kernel
theorem dX9_tick_28 : decode cX9_tick 28 = .ok (.iload_n 2, 1) := by decide +kernel
theorem dX9_tick_29 : decode cX9_tick 29 = .ok (.aload_n 0, 1) := by decide +kernel
theorem dX9_tick_30 : decode cX9_tick 30 = .ok (.getfield 24, 3) := by decide +kernel
theorem dX9_tick_33 : decode cX9_tick 33 = .ok (.invokevirtual 123, 3) := by decide +kernel
theorem dX9_tick_36 : decode cX9_tick 36 = .ok (.iadd, 1) := by decide +kernel
theorem dX9_tick_37 : decode cX9_tick 37 = .ok (.istore_n 2, 1) := by decide +kernel
theorem dX9_tick_38 : decode cX9_tick 38 = .ok (.iload_n 2, 1) := by decide +kernel
theorem dX9_tick_39 : decode cX9_tick 39 = .ok (.aload_n 0, 1) := by decide +kernel
theorem dX9_tick_40 : decode cX9_tick 40 = .ok (.getfield 28, 3) := by decide +kernel
theorem dX9_tick_43 : decode cX9_tick 43 = .ok (.invokevirtual 123, 3) := by decide +kernel
theorem dX9_tick_46 : decode cX9_tick 46 = .ok (.iadd, 1) := by decide +kernel
theorem dX9_tick_47 : decode cX9_tick 47 = .ok (.istore_n 2, 1) := by decide +kernel
theorem dX9_tick_48 : decode cX9_tick 48 = .ok (.iinc 3 1, 3) := by decide +kernel
theorem dX9_tick_51 : decode cX9_tick 51 = .ok (.goto (-28), 3) := by decide +kernel
theorem dX9_tick_54 : decode cX9_tick 54 = .ok (.iload_n 2, 1) := by decide +kernel
theorem dX9_tick_55 : decode cX9_tick 55 = .ok (.ireturn, 1) := by decide +kernel
theorem dX9_children_0 : decode cX9_children 0 = .ok (.aload_n 0, 1) := by decide +kernel
theorem dX9_children_1 : decode cX9_children 1 = .ok (.iload_n 1, 1) := by decide +kernel
theorem dX9_children_2 : decode cX9_children 2 = .ok (.invokevirtual 31, 3) := by decide +kernel
theorem dX9_children_5 : decode cX9_children 5 = .ok (.getfield 126, 3) := by decide +kernel
theorem dX9_children_8 : decode cX9_children 8 = .ok (.invokeinterface 82 1, 5) := by decide +kernel
theorem dX9_children_13 : decode cX9_children 13 = .ok (.ireturn, 1) := by decide +kernel
theorem dX9_child_0 : decode cX9_child 0 = .ok (.aload_n 0, 1) := by decide +kernel
theorem dX9_child_1 : decode cX9_child 1 = .ok (.iload_n 1, 1) := by decide +kernel
theorem dX9_child_2 : decode cX9_child 2 = .ok (.invokevirtual 31, 3) := by decide +kernel
theorem dX9_child_5 : decode cX9_child 5 = .ok (.iload_n 2, 1) := by decide +kernel
theorem dX9_child_6 : decode cX9_child 6 = .ok (.invokestatic 62, 3) := by decide +kernel
theorem dX9_child_9 : decode cX9_child 9 = .ok (.astore 4, 2) := by decide +kernel
theorem dX9_child_11 : decode cX9_child 11 = .ok (.iload_n 3, 1) := by decide +kernel
theorem dX9_child_12 : decode cX9_child 12 = .ok (.bipush 8, 2) := by decide +kernel
theorem dX9_child_14 : decode cX9_child 14 = .ok (.invokestatic 129, 3) := by decide +kernel
theorem dX9_child_17 : decode cX9_child 17 = .ok (.aload 4, 2) := by decide +kernel
theorem dX9_child_19 : decode cX9_child 19 = .ok (.iload_n 3, 1) := by decide +kernel
theorem dX9_child_20 : decode cX9_child 20 = .ok (.invokevirtual 132, 3) := by decide +kernel
theorem dX9_child_23 : decode cX9_child 23 = .ok (.ireturn, 1) := by decide +kernel
theorem dX9_flying_0 : decode cX9_flying 0 = .ok (.aload_n 0, 1) := by decide +kernel
theorem dX9_flying_1 : decode cX9_flying 1 = .ok (.iload_n 1, 1) := by decide +kernel
theorem dX9_flying_2 : decode cX9_flying 2 = .ok (.invokevirtual 100, 3) := by decide +kernel
theorem dX9_flying_5 : decode cX9_flying 5 = .ok (.getfield 108, 3) := by decide +kernel
theorem dX9_flying_8 : decode cX9_flying 8 = .ok (.invokeinterface 82 1, 5) := by decide +kernel
theorem dX9_flying_13 : decode cX9_flying 13 = .ok (.ireturn, 1) := by decide +kernel
theorem dX9_packet_0 : decode cX9_packet 0 = .ok (.aload_n 0, 1) := by decide +kernel
theorem dX9_packet_1 : decode cX9_packet 1 = .ok (.iload_n 1, 1) := by decide +kernel
theorem dX9_packet_2 : decode cX9_packet 2 = .ok (.invokevirtual 100, 3) := by decide +kernel
theorem dX9_packet_5 : decode cX9_packet 5 = .ok (.iload_n 2, 1) := by decide +kernel
theorem dX9_packet_6 : decode cX9_packet 6 = .ok (.invokestatic 104, 3) := by decide +kernel
theorem dX9_packet_9 : decode cX9_packet 9 = .ok (.astore 4, 2) := by decide +kernel
theorem dX9_packet_11 : decode cX9_packet 11 = .ok (.iload_n 3, 1) := by decide +kernel
theorem dX9_packet_12 : decode cX9_packet 12 = .ok (.bipush 7, 2) := by decide +kernel
theorem dX9_packet_14 : decode cX9_packet 14 = .ok (.invokestatic 129, 3) := by decide +kernel
theorem dX9_packet_17 : decode cX9_packet 17 = .ok (.aload 4, 2) := by decide +kernel
theorem dX9_packet_19 : decode cX9_packet 19 = .ok (.iload_n 3, 1) := by decide +kernel
theorem dX9_packet_20 : decode cX9_packet 20 = .ok (.invokevirtual 136, 3) := by decide +kernel
theorem dX9_packet_23 : decode cX9_packet 23 = .ok (.ireturn, 1) := by decide +kernel
theorem dX9_told_0 : decode cX9_told 0 = .ok (.aload_n 0, 1) := by decide +kernel
theorem dX9_told_1 : decode cX9_told 1 = .ok (.iload_n 1, 1) := by decide +kernel
theorem dX9_told_2 : decode cX9_told 2 = .ok (.invokevirtual 31, 3) := by decide +kernel
theorem dX9_told_5 : decode cX9_told 5 = .ok (.astore_n 3, 1) := by decide +kernel
theorem dX9_told_6 : decode cX9_told 6 = .ok (.iload_n 2, 1) := by decide +kernel
theorem dX9_told_7 : decode cX9_told 7 = .ok (.bipush 8, 2) := by decide +kernel
theorem dX9_told_9 : decode cX9_told 9 = .ok (.invokestatic 129, 3) := by decide +kernel
theorem dX9_told_12 : decode cX9_told 12 = .ok (.aload_n 3, 1) := by decide +kernel
theorem dX9_told_13 : decode cX9_told 13 = .ok (.iload_n 2, 1) := by decide +kernel
theorem dX9_told_14 : decode cX9_told 14 = .ok (.invokevirtual 139, 3) := by decide +kernel
theorem dX9_told_17 : decode cX9_told 17 = .ok (.ireturn, 1) := by decide +kernel
theorem dX9_agreed_0 : decode cX9_agreed 0 = .ok (.iconst 0, 1) := by decide +kernel
theorem dX9_agreed_1 : decode cX9_agreed 1 = .ok (.istore_n 1, 1) := by decide +kernel
theorem dX9_agreed_2 : decode cX9_agreed 2 = .ok (.iconst 0, 1) := by decide +kernel
theorem dX9_agreed_3 : decode cX9_agreed 3 = .ok (.istore_n 2, 1) := by decide +kernel
theorem dX9_agreed_4 : decode cX9_agreed 4 = .ok (.iload_n 2, 1) := by decide +kernel
theorem dX9_agreed_5 : decode cX9_agreed 5 = .ok (.aload_n 0, 1) := by decide +kernel
theorem dX9_agreed_6 : decode cX9_agreed 6 = .ok (.getfield 24, 3) := by decide +kernel
theorem dX9_agreed_9 : decode cX9_agreed 9 = .ok (.getfield 126, 3) := by decide +kernel
theorem dX9_agreed_12 : decode cX9_agreed 12 = .ok (.invokeinterface 82 1, 5) := by decide +kernel
theorem dX9_agreed_17 : decode cX9_agreed 17 = .ok (.if_icmp .ge 38, 3) := by decide +kernel
theorem dX9_agreed_20 : decode cX9_agreed 20 = .ok (.aload_n 0, 1) := by decide +kernel
theorem dX9_agreed_21 : decode cX9_agreed 21 = .ok (.getfield 28, 3) := by decide +kernel
theorem dX9_agreed_24 : decode cX9_agreed 24 = .ok (.aload_n 0, 1) := by decide +kernel
theorem dX9_agreed_25 : decode cX9_agreed 25 = .ok (.getfield 24, 3) := by decide +kernel
theorem dX9_agreed_28 : decode cX9_agreed 28 = .ok (.getfield 126, 3) := by decide +kernel
theorem dX9_agreed_31 : decode cX9_agreed 31 = .ok (.iload_n 2, 1) := by decide +kernel
theorem dX9_agreed_32 : decode cX9_agreed 32 = .ok (.invokeinterface 140 2, 5) := by decide +kernel
theorem dX9_agreed_37 : decode cX9_agreed 37 = .ok (.checkcast 67, 3) := by decide +kernel
theorem dX9_agreed_40 : decode cX9_agreed 40 = .ok (.invokevirtual 143, 3) := by decide +kernel
theorem dX9_agreed_43 : decode cX9_agreed 43 = .ok (.ifCond .eq 6, 3) := by decide +kernel
theorem dX9_agreed_46 : decode cX9_agreed 46 = .ok (.iinc 1 1, 3) := by decide +kernel
theorem dX9_agreed_49 : decode cX9_agreed 49 = .ok (.iinc 2 1, 3) := by decide +kernel
theorem dX9_agreed_52 : decode cX9_agreed 52 = .ok (.goto (-48), 3) := by decide +kernel
theorem dX9_agreed_55 : decode cX9_agreed 55 = .ok (.iload_n 1, 1) := by decide +kernel
theorem dX9_agreed_56 : decode cX9_agreed 56 = .ok (.ireturn, 1) := by decide +kernel
theorem dX9_clear_0 : decode cX9_clear 0 = .ok (.aload_n 0, 1) := by decide +kernel
theorem dX9_clear_1 : decode cX9_clear 1 = .ok (.getfield 10, 3) := by decide +kernel
theorem dX9_clear_4 : decode cX9_clear 4 = .ok (.getfield 108, 3) := by decide +kernel
theorem dX9_clear_7 : decode cX9_clear 7 = .ok (.invokeinterface 147 1, 5) := by decide +kernel
theorem dX9_clear_12 : decode cX9_clear 12 = .ok (.aload_n 0, 1) := by decide +kernel
theorem dX9_clear_13 : decode cX9_clear 13 = .ok (.getfield 16, 3) := by decide +kernel
theorem dX9_clear_16 : decode cX9_clear 16 = .ok (.getfield 108, 3) := by decide +kernel
theorem dX9_clear_19 : decode cX9_clear 19 = .ok (.invokeinterface 147 1, 5) := by decide +kernel
theorem dX9_clear_24 : decode cX9_clear 24 = .ok (.aload_n 0, 1) := by decide +kernel
theorem dX9_clear_25 : decode cX9_clear 25 = .ok (.getfield 24, 3) := by decide +kernel
theorem dX9_clear_28 : decode cX9_clear 28 = .ok (.invokevirtual 150, 3) := by decide +kernel
theorem dX9_clear_31 : decode cX9_clear 31 = .ok (.aload_n 0, 1) := by decide +kernel
theorem dX9_clear_32 : decode cX9_clear 32 = .ok (.getfield 28, 3) := by decide +kernel
theorem dX9_clear_35 : decode cX9_clear 35 = .ok (.invokevirtual 150, 3) := by decide +kernel
theorem dX9_clear_38 : decode cX9_clear 38 = .ok (.return_, 1) := by decide +kernel
theorem dX9_takeWishes_0 : decode cX9_takeWishes 0 = .ok (.aload_n 0, 1) := by decide +kernel
theorem dX9_takeWishes_1 : decode cX9_takeWishes 1 = .ok (.getfield 24, 3) := by decide +kernel
theorem dX9_takeWishes_4 : decode cX9_takeWishes 4 = .ok (.invokevirtual 153, 3) := by decide +kernel
theorem dX9_takeWishes_7 : decode cX9_takeWishes 7 = .ok (.aload_n 0, 1) := by decide +kernel
theorem dX9_takeWishes_8 : decode cX9_takeWishes 8 = .ok (.getfield 28, 3) := by decide +kernel
theorem dX9_takeWishes_11 : decode cX9_takeWishes 11 = .ok (.invokevirtual 153, 3) := by decide +kernel
theorem dX9_takeWishes_14 : decode cX9_takeWishes 14 = .ok (.return_, 1) := by decide +kernel
theorem dX9_peerAt_0 : decode cX9_peerAt 0 = .ok (.iload_n 1, 1) := by decide +kernel
theorem dX9_peerAt_1 : decode cX9_peerAt 1 = .ok (.ifCond .eq 16, 3) := by decide +kernel
theorem dX9_peerAt_4 : decode cX9_peerAt 4 = .ok (.iload_n 1, 1) := by decide +kernel
theorem dX9_peerAt_5 : decode cX9_peerAt 5 = .ok (.iconst 1, 1) := by decide +kernel
theorem dX9_peerAt_6 : decode cX9_peerAt 6 = .ok (.if_icmp .eq 11, 3) := by decide +kernel
theorem dX9_peerAt_9 : decode cX9_peerAt 9 = .ok (.new 156, 3) := by decide +kernel
theorem dX9_peerAt_12 : decode cX9_peerAt 12 = .ok (.dup, 1) := by decide +kernel
theorem dX9_peerAt_13 : decode cX9_peerAt 13 = .ok (.invokespecial 158, 3) := by decide +kernel
theorem dX9_peerAt_16 : decode cX9_peerAt 16 = .ok (.athrow, 1) := by decide +kernel
theorem dX9_peerAt_17 : decode cX9_peerAt 17 = .ok (.iload_n 1, 1) := by decide +kernel
theorem dX9_peerAt_18 : decode cX9_peerAt 18 = .ok (.ifCond .ne 10, 3) := by decide +kernel
theorem dX9_peerAt_21 : decode cX9_peerAt 21 = .ok (.aload_n 0, 1) := by decide +kernel
theorem dX9_peerAt_22 : decode cX9_peerAt 22 = .ok (.getfield 24, 3) := by decide +kernel
theorem dX9_peerAt_25 : decode cX9_peerAt 25 = .ok (.goto 7, 3) := by decide +kernel
theorem dX9_peerAt_28 : decode cX9_peerAt 28 = .ok (.aload_n 0, 1) := by decide +kernel
theorem dX9_peerAt_29 : decode cX9_peerAt 29 = .ok (.getfield 28, 3) := by decide +kernel
theorem dX9_peerAt_32 : decode cX9_peerAt 32 = .ok (.areturn, 1) := by decide +kernel
theorem dX9_flightTo_0 : decode cX9_flightTo 0 = .ok (.iload_n 1, 1) := by decide +kernel
theorem dX9_flightTo_1 : decode cX9_flightTo 1 = .ok (.ifCond .eq 16, 3) := by decide +kernel
theorem dX9_flightTo_4 : decode cX9_flightTo 4 = .ok (.iload_n 1, 1) := by decide +kernel
theorem dX9_flightTo_5 : decode cX9_flightTo 5 = .ok (.iconst 1, 1) := by decide +kernel
theorem dX9_flightTo_6 : decode cX9_flightTo 6 = .ok (.if_icmp .eq 11, 3) := by decide +kernel
theorem dX9_flightTo_9 : decode cX9_flightTo 9 = .ok (.new 156, 3) := by decide +kernel
theorem dX9_flightTo_12 : decode cX9_flightTo 12 = .ok (.dup, 1) := by decide +kernel
theorem dX9_flightTo_13 : decode cX9_flightTo 13 = .ok (.invokespecial 158, 3) := by decide +kernel
theorem dX9_flightTo_16 : decode cX9_flightTo 16 = .ok (.athrow, 1) := by decide +kernel
theorem dX9_flightTo_17 : decode cX9_flightTo 17 = .ok (.iload_n 1, 1) := by decide +kernel
theorem dX9_flightTo_18 : decode cX9_flightTo 18 = .ok (.ifCond .ne 10, 3) := by decide +kernel
theorem dX9_flightTo_21 : decode cX9_flightTo 21 = .ok (.aload_n 0, 1) := by decide +kernel
theorem dX9_flightTo_22 : decode cX9_flightTo 22 = .ok (.getfield 10, 3) := by decide +kernel
theorem dX9_flightTo_25 : decode cX9_flightTo 25 = .ok (.goto 7, 3) := by decide +kernel
theorem dX9_flightTo_28 : decode cX9_flightTo 28 = .ok (.aload_n 0, 1) := by decide +kernel
theorem dX9_flightTo_29 : decode cX9_flightTo 29 = .ok (.getfield 16, 3) := by decide +kernel
theorem dX9_flightTo_32 : decode cX9_flightTo 32 = .ok (.areturn, 1) := by decide +kernel
theorem dX9_childAt_0 : decode cX9_childAt 0 = .ok (.iload_n 1, 1) := by decide +kernel
theorem dX9_childAt_1 : decode cX9_childAt 1 = .ok (.ifCond .lt 16, 3) := by decide +kernel
theorem dX9_childAt_4 : decode cX9_childAt 4 = .ok (.iload_n 1, 1) := by decide +kernel
theorem dX9_childAt_5 : decode cX9_childAt 5 = .ok (.aload_n 0, 1) := by decide +kernel
theorem dX9_childAt_6 : decode cX9_childAt 6 = .ok (.getfield 126, 3) := by decide +kernel
theorem dX9_childAt_9 : decode cX9_childAt 9 = .ok (.invokeinterface 82 1, 5) := by decide +kernel
theorem dX9_childAt_14 : decode cX9_childAt 14 = .ok (.if_icmp .lt 11, 3) := by decide +kernel
theorem dX9_childAt_17 : decode cX9_childAt 17 = .ok (.new 156, 3) := by decide +kernel
theorem dX9_childAt_20 : decode cX9_childAt 20 = .ok (.dup, 1) := by decide +kernel
theorem dX9_childAt_21 : decode cX9_childAt 21 = .ok (.invokespecial 158, 3) := by decide +kernel
theorem dX9_childAt_24 : decode cX9_childAt 24 = .ok (.athrow, 1) := by decide +kernel
theorem dX9_childAt_25 : decode cX9_childAt 25 = .ok (.aload_n 0, 1) := by decide +kernel
theorem dX9_childAt_26 : decode cX9_childAt 26 = .ok (.getfield 126, 3) := by decide +kernel
theorem dX9_childAt_29 : decode cX9_childAt 29 = .ok (.iload_n 1, 1) := by decide +kernel
theorem dX9_childAt_30 : decode cX9_childAt 30 = .ok (.invokeinterface 140 2, 5) := by decide +kernel
theorem dX9_childAt_35 : decode cX9_childAt 35 = .ok (.checkcast 67, 3) := by decide +kernel
theorem dX9_childAt_38 : decode cX9_childAt 38 = .ok (.areturn, 1) := by decide +kernel
theorem dX9_packetAt_0 : decode cX9_packetAt 0 = .ok (.iload_n 1, 1) := by decide +kernel
theorem dX9_packetAt_1 : decode cX9_packetAt 1 = .ok (.ifCond .lt 16, 3) := by decide +kernel
theorem dX9_packetAt_4 : decode cX9_packetAt 4 = .ok (.iload_n 1, 1) := by decide +kernel
theorem dX9_packetAt_5 : decode cX9_packetAt 5 = .ok (.aload_n 0, 1) := by decide +kernel
theorem dX9_packetAt_6 : decode cX9_packetAt 6 = .ok (.getfield 108, 3) := by decide +kernel
theorem dX9_packetAt_9 : decode cX9_packetAt 9 = .ok (.invokeinterface 82 1, 5) := by decide +kernel
theorem dX9_packetAt_14 : decode cX9_packetAt 14 = .ok (.if_icmp .lt 11, 3) := by decide +kernel
theorem dX9_packetAt_17 : decode cX9_packetAt 17 = .ok (.new 156, 3) := by decide +kernel
theorem dX9_packetAt_20 : decode cX9_packetAt 20 = .ok (.dup, 1) := by decide +kernel
theorem dX9_packetAt_21 : decode cX9_packetAt 21 = .ok (.invokespecial 158, 3) := by decide +kernel
theorem dX9_packetAt_24 : decode cX9_packetAt 24 = .ok (.athrow, 1) := by decide +kernel
theorem dX9_packetAt_25 : decode cX9_packetAt 25 = .ok (.aload_n 0, 1) := by decide +kernel
theorem dX9_packetAt_26 : decode cX9_packetAt 26 = .ok (.getfield 108, 3) := by decide +kernel
theorem dX9_packetAt_29 : decode cX9_packetAt 29 = .ok (.iload_n 1, 1) := by decide +kernel
theorem dX9_packetAt_30 : decode cX9_packetAt 30 = .ok (.invokeinterface 140 2, 5) := by decide +kernel
theorem dX9_packetAt_35 : decode cX9_packetAt 35 = .ok (.checkcast 137, 3) := by decide +kernel
theorem dX9_packetAt_38 : decode cX9_packetAt 38 = .ok (.areturn, 1) := by decide +kernel
theorem dX9_refuseOutside_0 : decode cX9_refuseOutside 0 = .ok (.iload_n 0, 1) := by decide +kernel
theorem dX9_refuseOutside_1 : decode cX9_refuseOutside 1 = .ok (.ifCond .lt 8, 3) := by decide +kernel
theorem dX9_refuseOutside_4 : decode cX9_refuseOutside 4 = .ok (.iload_n 0, 1) := by decide +kernel
theorem dX9_refuseOutside_5 : decode cX9_refuseOutside 5 = .ok (.iload_n 1, 1) := by decide +kernel
theorem dX9_refuseOutside_6 : decode cX9_refuseOutside 6 = .ok (.if_icmp .lt 11, 3) := by decide +kernel
theorem dX9_refuseOutside_9 : decode cX9_refuseOutside 9 = .ok (.new 39, 3) := by decide +kernel
theorem dX9_refuseOutside_12 : decode cX9_refuseOutside 12 = .ok (.dup, 1) := by decide +kernel
theorem dX9_refuseOutside_13 : decode cX9_refuseOutside 13 = .ok (.invokespecial 41, 3) := by decide +kernel
theorem dX9_refuseOutside_16 : decode cX9_refuseOutside 16 = .ok (.athrow, 1) := by decide +kernel
theorem dX9_refuseOutside_17 : decode cX9_refuseOutside 17 = .ok (.return_, 1) := by decide +kernel
theorem dX10_init_0 : decode cX10_init 0 = .ok (.aload_n 0, 1) := by decide +kernel
theorem dX10_init_1 : decode cX10_init 1 = .ok (.invokespecial 1, 3) := by decide +kernel
theorem dX10_init_4 : decode cX10_init 4 = .ok (.aload_n 0, 1) := by decide +kernel
theorem dX10_init_5 : decode cX10_init 5 = .ok (.iconst 2, 1) := by decide +kernel
theorem dX10_init_6 : decode cX10_init 6 = .ok (.newarray .int, 2) := by decide +kernel
theorem dX10_init_8 : decode cX10_init 8 = .ok (.putfield 7, 3) := by decide +kernel
theorem dX10_init_11 : decode cX10_init 11 = .ok (.aload_n 0, 1) := by decide +kernel
theorem dX10_init_12 : decode cX10_init 12 = .ok (.bipush 8, 2) := by decide +kernel
theorem dX10_init_14 : decode cX10_init 14 = .ok (.newarray .int, 2) := by decide +kernel
theorem dX10_init_16 : decode cX10_init 16 = .ok (.putfield 13, 3) := by decide +kernel
theorem dX10_init_19 : decode cX10_init 19 = .ok (.aload_n 0, 1) := by decide +kernel
theorem dX10_init_20 : decode cX10_init 20 = .ok (.iconst 2, 1) := by decide +kernel
theorem dX10_init_21 : decode cX10_init 21 = .ok (.newarray .int, 2) := by decide +kernel
theorem dX10_init_23 : decode cX10_init 23 = .ok (.putfield 16, 3) := by decide +kernel
theorem dX10_init_26 : decode cX10_init 26 = .ok (.aload_n 0, 1) := by decide +kernel
theorem dX10_init_27 : decode cX10_init 27 = .ok (.iconst 2, 1) := by decide +kernel
theorem dX10_init_28 : decode cX10_init 28 = .ok (.newarray .int, 2) := by decide +kernel
theorem dX10_init_30 : decode cX10_init 30 = .ok (.putfield 19, 3) := by decide +kernel
theorem dX10_init_33 : decode cX10_init 33 = .ok (.aload_n 0, 1) := by decide +kernel
theorem dX10_init_34 : decode cX10_init 34 = .ok (.iconst 2, 1) := by decide +kernel
theorem dX10_init_35 : decode cX10_init 35 = .ok (.newarray .int, 2) := by decide +kernel
theorem dX10_init_37 : decode cX10_init 37 = .ok (.putfield 22, 3) := by decide +kernel
theorem dX10_init_40 : decode cX10_init 40 = .ok (.aload_n 0, 1) := by decide +kernel
theorem dX10_init_41 : decode cX10_init 41 = .ok (.iconst 2, 1) := by decide +kernel
theorem dX10_init_42 : decode cX10_init 42 = .ok (.newarray .int, 2) := by decide +kernel
theorem dX10_init_44 : decode cX10_init 44 = .ok (.putfield 25, 3) := by decide +kernel
theorem dX10_init_47 : decode cX10_init 47 = .ok (.aload_n 0, 1) := by decide +kernel
theorem dX10_init_48 : decode cX10_init 48 = .ok (.iconst 2, 1) := by decide +kernel
theorem dX10_init_49 : decode cX10_init 49 = .ok (.newarray .int, 2) := by decide +kernel
theorem dX10_init_51 : decode cX10_init 51 = .ok (.putfield 28, 3) := by decide +kernel
theorem dX10_init_54 : decode cX10_init 54 = .ok (.aload_n 0, 1) := by decide +kernel
theorem dX10_init_55 : decode cX10_init 55 = .ok (.sipush 272, 3) := by decide +kernel
theorem dX10_init_58 : decode cX10_init 58 = .ok (.newarray .int, 2) := by decide +kernel
theorem dX10_init_60 : decode cX10_init 60 = .ok (.putfield 31, 3) := by decide +kernel
theorem dX10_init_63 : decode cX10_init 63 = .ok (.aload_n 0, 1) := by decide +kernel
theorem dX10_init_64 : decode cX10_init 64 = .ok (.iconst 2, 1) := by decide +kernel
theorem dX10_init_65 : decode cX10_init 65 = .ok (.newarray .int, 2) := by decide +kernel
theorem dX10_init_67 : decode cX10_init 67 = .ok (.putfield 34, 3) := by decide +kernel
theorem dX10_init_70 : decode cX10_init 70 = .ok (.aload_n 0, 1) := by decide +kernel
theorem dX10_init_71 : decode cX10_init 71 = .ok (.bipush 32, 2) := by decide +kernel
theorem dX10_init_73 : decode cX10_init 73 = .ok (.newarray .int, 2) := by decide +kernel
theorem dX10_init_75 : decode cX10_init 75 = .ok (.putfield 37, 3) := by decide +kernel
theorem dX10_init_78 : decode cX10_init 78 = .ok (.aload_n 0, 1) := by decide +kernel
theorem dX10_init_79 : decode cX10_init 79 = .ok (.bipush 32, 2) := by decide +kernel
theorem dX10_init_81 : decode cX10_init 81 = .ok (.newarray .int, 2) := by decide +kernel
theorem dX10_init_83 : decode cX10_init 83 = .ok (.putfield 40, 3) := by decide +kernel
theorem dX10_init_86 : decode cX10_init 86 = .ok (.aload_n 0, 1) := by decide +kernel
theorem dX10_init_87 : decode cX10_init 87 = .ok (.iconst 2, 1) := by decide +kernel
theorem dX10_init_88 : decode cX10_init 88 = .ok (.newarray .boolean, 2) := by decide +kernel
theorem dX10_init_90 : decode cX10_init 90 = .ok (.putfield 43, 3) := by decide +kernel
theorem dX10_init_93 : decode cX10_init 93 = .ok (.aload_n 0, 1) := by decide +kernel
theorem dX10_init_94 : decode cX10_init 94 = .ok (.iconst 2, 1) := by decide +kernel
theorem dX10_init_95 : decode cX10_init 95 = .ok (.newarray .boolean, 2) := by decide +kernel
theorem dX10_init_97 : decode cX10_init 97 = .ok (.putfield 47, 3) := by decide +kernel
theorem dX10_init_100 : decode cX10_init 100 = .ok (.aload_n 0, 1) := by decide +kernel
theorem dX10_init_101 : decode cX10_init 101 = .ok (.bipush 32, 2) := by decide +kernel
theorem dX10_init_103 : decode cX10_init 103 = .ok (.newarray .int, 2) := by decide +kernel
theorem dX10_init_105 : decode cX10_init 105 = .ok (.putfield 50, 3) := by decide +kernel
theorem dX10_init_108 : decode cX10_init 108 = .ok (.aload_n 0, 1) := by decide +kernel
theorem dX10_init_109 : decode cX10_init 109 = .ok (.iconst 2, 1) := by decide +kernel
theorem dX10_init_110 : decode cX10_init 110 = .ok (.newarray .int, 2) := by decide +kernel
theorem dX10_init_112 : decode cX10_init 112 = .ok (.putfield 53, 3) := by decide +kernel
theorem dX10_init_115 : decode cX10_init 115 = .ok (.aload_n 0, 1) := by decide +kernel
theorem dX10_init_116 : decode cX10_init 116 = .ok (.iconst 2, 1) := by decide +kernel
theorem dX10_init_117 : decode cX10_init 117 = .ok (.newarray .int, 2) := by decide +kernel
theorem dX10_init_119 : decode cX10_init 119 = .ok (.putfield 56, 3) := by decide +kernel
theorem dX10_init_122 : decode cX10_init 122 = .ok (.aload_n 0, 1) := by decide +kernel
theorem dX10_init_123 : decode cX10_init 123 = .ok (.iconst 2, 1) := by decide +kernel
theorem dX10_init_124 : decode cX10_init 124 = .ok (.newarray .int, 2) := by decide +kernel
theorem dX10_init_126 : decode cX10_init 126 = .ok (.putfield 59, 3) := by decide +kernel
theorem dX10_init_129 : decode cX10_init 129 = .ok (.aload_n 0, 1) := by decide +kernel
theorem dX10_init_130 : decode cX10_init 130 = .ok (.iconst 2, 1) := by decide +kernel
theorem dX10_init_131 : decode cX10_init 131 = .ok (.newarray .int, 2) := by decide +kernel
theorem dX10_init_133 : decode cX10_init 133 = .ok (.putfield 62, 3) := by decide +kernel
theorem dX10_init_136 : decode cX10_init 136 = .ok (.aload_n 0, 1) := by decide +kernel
theorem dX10_init_137 : decode cX10_init 137 = .ok (.iconst 2, 1) := by decide +kernel
theorem dX10_init_138 : decode cX10_init 138 = .ok (.newarray .int, 2) := by decide +kernel
theorem dX10_init_140 : decode cX10_init 140 = .ok (.putfield 65, 3) := by decide +kernel
theorem dX10_init_143 : decode cX10_init 143 = .ok (.aload_n 0, 1) := by decide +kernel
theorem dX10_init_144 : decode cX10_init 144 = .ok (.bipush 32, 2) := by decide +kernel
theorem dX10_init_146 : decode cX10_init 146 = .ok (.newarray .int, 2) := by decide +kernel
theorem dX10_init_148 : decode cX10_init 148 = .ok (.putfield 68, 3) := by decide +kernel
theorem dX10_init_151 : decode cX10_init 151 = .ok (.aload_n 0, 1) := by decide +kernel
theorem dX10_init_152 : decode cX10_init 152 = .ok (.iconst 2, 1) := by decide +kernel
theorem dX10_init_153 : decode cX10_init 153 = .ok (.newarray .int, 2) := by decide +kernel
theorem dX10_init_155 : decode cX10_init 155 = .ok (.putfield 71, 3) := by decide +kernel
theorem dX10_init_158 : decode cX10_init 158 = .ok (.aload_n 0, 1) := by decide +kernel
theorem dX10_init_159 : decode cX10_init 159 = .ok (.sipush 1024, 3) := by decide +kernel
theorem dX10_init_162 : decode cX10_init 162 = .ok (.newarray .int, 2) := by decide +kernel
theorem dX10_init_164 : decode cX10_init 164 = .ok (.putfield 74, 3) := by decide +kernel
theorem dX10_init_167 : decode cX10_init 167 = .ok (.aload_n 0, 1) := by decide +kernel
theorem dX10_init_168 : decode cX10_init 168 = .ok (.bipush 16, 2) := by decide +kernel
theorem dX10_init_170 : decode cX10_init 170 = .ok (.newarray .int, 2) := by decide +kernel
theorem dX10_init_172 : decode cX10_init 172 = .ok (.putfield 77, 3) := by decide +kernel
theorem dX10_init_175 : decode cX10_init 175 = .ok (.aload_n 0, 1) := by decide +kernel
theorem dX10_init_176 : decode cX10_init 176 = .ok (.invokevirtual 80, 3) := by decide +kernel
theorem dX10_init_179 : decode cX10_init 179 = .ok (.return_, 1) := by decide +kernel
theorem dX10_thrown_0 : decode cX10_thrown 0 = .ok (.aload_n 0, 1) := by decide +kernel
theorem dX10_thrown_1 : decode cX10_thrown 1 = .ok (.getfield 83, 3) := by decide +kernel
theorem dX10_thrown_4 : decode cX10_thrown 4 = .ok (.ireturn, 1) := by decide +kernel
theorem dX10_clear_0 : decode cX10_clear 0 = .ok (.aload_n 0, 1) := by decide +kernel
theorem dX10_clear_1 : decode cX10_clear 1 = .ok (.iconst 0, 1) := by decide +kernel
theorem dX10_clear_2 : decode cX10_clear 2 = .ok (.putfield 83, 3) := by decide +kernel
theorem dX10_clear_5 : decode cX10_clear 5 = .ok (.iconst 0, 1) := by decide +kernel
theorem dX10_clear_6 : decode cX10_clear 6 = .ok (.istore_n 1, 1) := by decide +kernel
theorem dX10_clear_7 : decode cX10_clear 7 = .ok (.iload_n 1, 1) := by decide +kernel
theorem dX10_clear_8 : decode cX10_clear 8 = .ok (.iconst 2, 1) := by decide +kernel
theorem dX10_clear_9 : decode cX10_clear 9 = .ok (.if_icmp .ge 97, 3) := by decide +kernel
theorem dX10_clear_12 : decode cX10_clear 12 = .ok (.aload_n 0, 1) := by decide +kernel
theorem dX10_clear_13 : decode cX10_clear 13 = .ok (.getfield 7, 3) := by decide +kernel
theorem dX10_clear_16 : decode cX10_clear 16 = .ok (.iload_n 1, 1) := by decide +kernel
theorem dX10_clear_17 : decode cX10_clear 17 = .ok (.iconst 0, 1) := by decide +kernel
theorem dX10_clear_18 : decode cX10_clear 18 = .ok (.iastore, 1) := by decide +kernel
theorem dX10_clear_19 : decode cX10_clear 19 = .ok (.aload_n 0, 1) := by decide +kernel
theorem dX10_clear_20 : decode cX10_clear 20 = .ok (.getfield 16, 3) := by decide +kernel
theorem dX10_clear_23 : decode cX10_clear 23 = .ok (.iload_n 1, 1) := by decide +kernel
theorem dX10_clear_24 : decode cX10_clear 24 = .ok (.iconst 0, 1) := by decide +kernel
theorem dX10_clear_25 : decode cX10_clear 25 = .ok (.iastore, 1) := by decide +kernel
theorem dX10_clear_26 : decode cX10_clear 26 = .ok (.aload_n 0, 1) := by decide +kernel
theorem dX10_clear_27 : decode cX10_clear 27 = .ok (.getfield 19, 3) := by decide +kernel
theorem dX10_clear_30 : decode cX10_clear 30 = .ok (.iload_n 1, 1) := by decide +kernel
theorem dX10_clear_31 : decode cX10_clear 31 = .ok (.sipush 1000, 3) := by decide +kernel
theorem dX10_clear_34 : decode cX10_clear 34 = .ok (.iastore, 1) := by decide +kernel
theorem dX10_clear_35 : decode cX10_clear 35 = .ok (.aload_n 0, 1) := by decide +kernel
theorem dX10_clear_36 : decode cX10_clear 36 = .ok (.getfield 22, 3) := by decide +kernel
theorem dX10_clear_39 : decode cX10_clear 39 = .ok (.iload_n 1, 1) := by decide +kernel
theorem dX10_clear_40 : decode cX10_clear 40 = .ok (.iload_n 1, 1) := by decide +kernel
theorem dX10_clear_41 : decode cX10_clear 41 = .ok (.iastore, 1) := by decide +kernel
theorem dX10_clear_42 : decode cX10_clear 42 = .ok (.aload_n 0, 1) := by decide +kernel
theorem dX10_clear_43 : decode cX10_clear 43 = .ok (.getfield 25, 3) := by decide +kernel
theorem dX10_clear_46 : decode cX10_clear 46 = .ok (.iload_n 1, 1) := by decide +kernel
theorem dX10_clear_47 : decode cX10_clear 47 = .ok (.iload_n 1, 1) := by decide +kernel
theorem dX10_clear_48 : decode cX10_clear 48 = .ok (.iconst 1, 1) := by decide +kernel
theorem dX10_clear_49 : decode cX10_clear 49 = .ok (.iadd, 1) := by decide +kernel
theorem dX10_clear_50 : decode cX10_clear 50 = .ok (.iastore, 1) := by decide +kernel
theorem dX10_clear_51 : decode cX10_clear 51 = .ok (.aload_n 0, 1) := by decide +kernel
theorem dX10_clear_52 : decode cX10_clear 52 = .ok (.getfield 28, 3) := by decide +kernel
theorem dX10_clear_55 : decode cX10_clear 55 = .ok (.iload_n 1, 1) := by decide +kernel
theorem dX10_clear_56 : decode cX10_clear 56 = .ok (.iconst 0, 1) := by decide +kernel
theorem dX10_clear_57 : decode cX10_clear 57 = .ok (.iastore, 1) := by decide +kernel
theorem dX10_clear_58 : decode cX10_clear 58 = .ok (.aload_n 0, 1) := by decide +kernel
theorem dX10_clear_59 : decode cX10_clear 59 = .ok (.getfield 34, 3) := by decide +kernel
theorem dX10_clear_62 : decode cX10_clear 62 = .ok (.iload_n 1, 1) := by decide +kernel
theorem dX10_clear_63 : decode cX10_clear 63 = .ok (.iconst 0, 1) := by decide +kernel
theorem dX10_clear_64 : decode cX10_clear 64 = .ok (.iastore, 1) := by decide +kernel
theorem dX10_clear_65 : decode cX10_clear 65 = .ok (.aload_n 0, 1) := by decide +kernel
theorem dX10_clear_66 : decode cX10_clear 66 = .ok (.getfield 43, 3) := by decide +kernel
theorem dX10_clear_69 : decode cX10_clear 69 = .ok (.iload_n 1, 1) := by decide +kernel
theorem dX10_clear_70 : decode cX10_clear 70 = .ok (.iconst 0, 1) := by decide +kernel
theorem dX10_clear_71 : decode cX10_clear 71 = .ok (.bastore, 1) := by decide +kernel
theorem dX10_clear_72 : decode cX10_clear 72 = .ok (.aload_n 0, 1) := by decide +kernel
theorem dX10_clear_73 : decode cX10_clear 73 = .ok (.getfield 47, 3) := by decide +kernel
theorem dX10_clear_76 : decode cX10_clear 76 = .ok (.iload_n 1, 1) := by decide +kernel
theorem dX10_clear_77 : decode cX10_clear 77 = .ok (.iconst 0, 1) := by decide +kernel
theorem dX10_clear_78 : decode cX10_clear 78 = .ok (.bastore, 1) := by decide +kernel
theorem dX10_clear_79 : decode cX10_clear 79 = .ok (.aload_n 0, 1) := by decide +kernel
theorem dX10_clear_80 : decode cX10_clear 80 = .ok (.getfield 62, 3) := by decide +kernel
theorem dX10_clear_83 : decode cX10_clear 83 = .ok (.iload_n 1, 1) := by decide +kernel
theorem dX10_clear_84 : decode cX10_clear 84 = .ok (.iconst 0, 1) := by decide +kernel
theorem dX10_clear_85 : decode cX10_clear 85 = .ok (.iastore, 1) := by decide +kernel
theorem dX10_clear_86 : decode cX10_clear 86 = .ok (.aload_n 0, 1) := by decide +kernel
theorem dX10_clear_87 : decode cX10_clear 87 = .ok (.getfield 65, 3) := by decide +kernel
theorem dX10_clear_90 : decode cX10_clear 90 = .ok (.iload_n 1, 1) := by decide +kernel
theorem dX10_clear_91 : decode cX10_clear 91 = .ok (.iconst 0, 1) := by decide +kernel
theorem dX10_clear_92 : decode cX10_clear 92 = .ok (.iastore, 1) := by decide +kernel
theorem dX10_clear_93 : decode cX10_clear 93 = .ok (.aload_n 0, 1) := by decide +kernel
theorem dX10_clear_94 : decode cX10_clear 94 = .ok (.getfield 71, 3) := by decide +kernel
theorem dX10_clear_97 : decode cX10_clear 97 = .ok (.iload_n 1, 1) := by decide +kernel
theorem dX10_clear_98 : decode cX10_clear 98 = .ok (.iconst 0, 1) := by decide +kernel
theorem dX10_clear_99 : decode cX10_clear 99 = .ok (.iastore, 1) := by decide +kernel
theorem dX10_clear_100 : decode cX10_clear 100 = .ok (.iinc 1 1, 3) := by decide +kernel
theorem dX10_clear_103 : decode cX10_clear 103 = .ok (.goto (-96), 3) := by decide +kernel
theorem dX10_clear_106 : decode cX10_clear 106 = .ok (.return_, 1) := by decide +kernel
theorem dX10_isPeer_0 : decode cX10_isPeer 0 = .ok (.iload_n 0, 1) := by decide +kernel
theorem dX10_isPeer_1 : decode cX10_isPeer 1 = .ok (.ifCond .eq 8, 3) := by decide +kernel
theorem dX10_isPeer_4 : decode cX10_isPeer 4 = .ok (.iload_n 0, 1) := by decide +kernel
theorem dX10_isPeer_5 : decode cX10_isPeer 5 = .ok (.iconst 1, 1) := by decide +kernel
theorem dX10_isPeer_6 : decode cX10_isPeer 6 = .ok (.if_icmp .ne 7, 3) := by decide +kernel
theorem dX10_isPeer_9 : decode cX10_isPeer 9 = .ok (.iconst 1, 1) := by decide +kernel
theorem dX10_isPeer_10 : decode cX10_isPeer 10 = .ok (.goto 4, 3) := by decide +kernel
theorem dX10_isPeer_13 : decode cX10_isPeer 13 = .ok (.iconst 0, 1) := by decide +kernel
theorem dX10_isPeer_14 : decode cX10_isPeer 14 = .ok (.ireturn, 1) := by decide +kernel
theorem dX10_suite_0 : decode cX10_suite 0 = .ok (.aload_n 0, 1) := by decide +kernel
theorem dX10_suite_1 : decode cX10_suite 1 = .ok (.iload_n 1, 1) := by decide +kernel
theorem dX10_suite_2 : decode cX10_suite 2 = .ok (.invokestatic 87, 3) := by decide +kernel
theorem dX10_suite_5 : decode cX10_suite 5 = .ok (.ifCond .eq 7, 3) := by decide +kernel
theorem dX10_suite_8 : decode cX10_suite 8 = .ok (.iconst 0, 1) := by decide +kernel
theorem dX10_suite_9 : decode cX10_suite 9 = .ok (.goto 4, 3) := by decide +kernel
theorem dX10_suite_12 : decode cX10_suite 12 = .ok (.iconst 1, 1) := by decide +kernel
theorem dX10_suite_13 : decode cX10_suite 13 = .ok (.putfield 83, 3) := by decide +kernel
theorem dX10_suite_16 : decode cX10_suite 16 = .ok (.aload_n 0, 1) := by decide +kernel
theorem dX10_suite_17 : decode cX10_suite 17 = .ok (.getfield 83, 3) := by decide +kernel
theorem dX10_suite_20 : decode cX10_suite 20 = .ok (.ifCond .le 5, 3) := by decide +kernel
theorem dX10_suite_23 : decode cX10_suite 23 = .ok (.iconst 0, 1) := by decide +kernel
theorem dX10_suite_24 : decode cX10_suite 24 = .ok (.ireturn, 1) := by decide +kernel
theorem dX10_suite_25 : decode cX10_suite 25 = .ok (.iconst 0, 1) := by decide +kernel
theorem dX10_suite_26 : decode cX10_suite 26 = .ok (.istore_n 3, 1) := by decide +kernel
theorem dX10_suite_27 : decode cX10_suite 27 = .ok (.iconst 0, 1) := by decide +kernel
theorem dX10_suite_28 : decode cX10_suite 28 = .ok (.istore 4, 2) := by decide +kernel
theorem dX10_suite_30 : decode cX10_suite 30 = .ok (.iload 4, 2) := by decide +kernel
theorem dX10_suite_32 : decode cX10_suite 32 = .ok (.aload_n 0, 1) := by decide +kernel
theorem dX10_suite_33 : decode cX10_suite 33 = .ok (.getfield 7, 3) := by decide +kernel
theorem dX10_suite_36 : decode cX10_suite 36 = .ok (.iload_n 1, 1) := by decide +kernel
theorem dX10_suite_37 : decode cX10_suite 37 = .ok (.iaload, 1) := by decide +kernel
theorem dX10_suite_38 : decode cX10_suite 38 = .ok (.if_icmp .ge 34, 3) := by decide +kernel
theorem dX10_suite_41 : decode cX10_suite 41 = .ok (.iload_n 3, 1) := by decide +kernel
theorem dX10_suite_42 : decode cX10_suite 42 = .ok (.ifCond .ne 18, 3) := by decide +kernel
theorem dX10_suite_45 : decode cX10_suite 45 = .ok (.aload_n 0, 1) := by decide +kernel
theorem dX10_suite_46 : decode cX10_suite 46 = .ok (.getfield 13, 3) := by decide +kernel
theorem dX10_suite_49 : decode cX10_suite 49 = .ok (.iconst 4, 1) := by decide +kernel
theorem dX10_suite_50 : decode cX10_suite 50 = .ok (.iload_n 1, 1) := by decide +kernel
theorem dX10_suite_51 : decode cX10_suite 51 = .ok (.imul, 1) := by decide +kernel
theorem dX10_suite_52 : decode cX10_suite 52 = .ok (.iload 4, 2) := by decide +kernel
theorem dX10_suite_54 : decode cX10_suite 54 = .ok (.iadd, 1) := by decide +kernel
theorem dX10_suite_55 : decode cX10_suite 55 = .ok (.iaload, 1) := by decide +kernel
theorem dX10_suite_56 : decode cX10_suite 56 = .ok (.iload_n 2, 1) := by decide +kernel
theorem dX10_suite_57 : decode cX10_suite 57 = .ok (.if_icmp .ne 7, 3) := by decide +kernel
theorem dX10_suite_60 : decode cX10_suite 60 = .ok (.iconst 1, 1) := by decide +kernel
theorem dX10_suite_61 : decode cX10_suite 61 = .ok (.goto 4, 3) := by decide +kernel
theorem dX10_suite_64 : decode cX10_suite 64 = .ok (.iconst 0, 1) := by decide +kernel
theorem dX10_suite_65 : decode cX10_suite 65 = .ok (.istore_n 3, 1) := by decide +kernel
theorem dX10_suite_66 : decode cX10_suite 66 = .ok (.iinc 4 1, 3) := by decide +kernel
theorem dX10_suite_69 : decode cX10_suite 69 = .ok (.goto (-39), 3) := by decide +kernel
theorem dX10_suite_72 : decode cX10_suite 72 = .ok (.aload_n 0, 1) := by decide +kernel
theorem dX10_suite_73 : decode cX10_suite 73 = .ok (.iload_n 2, 1) := by decide +kernel
theorem dX10_suite_74 : decode cX10_suite 74 = .ok (.iconst 1, 1) := by decide +kernel
theorem dX10_suite_75 : decode cX10_suite 75 = .ok (.if_icmp .lt 13, 3) := by decide +kernel
theorem dX10_suite_78 : decode cX10_suite 78 = .ok (.iload_n 2, 1) := by decide +kernel
theorem dX10_suite_79 : decode cX10_suite 79 = .ok (.bipush 9, 2) := by decide +kernel
theorem dX10_suite_81 : decode cX10_suite 81 = .ok (.if_icmp .gt 7, 3) := by decide +kernel
theorem dX10_suite_84 : decode cX10_suite 84 = .ok (.iload_n 3, 1) := by decide +kernel
theorem dX10_suite_85 : decode cX10_suite 85 = .ok (.ifCond .eq 7, 3) := by decide +kernel
theorem dX10_suite_88 : decode cX10_suite 88 = .ok (.iconst 2, 1) := by decide +kernel
theorem dX10_suite_89 : decode cX10_suite 89 = .ok (.goto 18, 3) := by decide +kernel
theorem dX10_suite_92 : decode cX10_suite 92 = .ok (.aload_n 0, 1) := by decide +kernel
theorem dX10_suite_93 : decode cX10_suite 93 = .ok (.getfield 7, 3) := by decide +kernel
theorem dX10_suite_96 : decode cX10_suite 96 = .ok (.iload_n 1, 1) := by decide +kernel
theorem dX10_suite_97 : decode cX10_suite 97 = .ok (.iaload, 1) := by decide +kernel
theorem dX10_suite_98 : decode cX10_suite 98 = .ok (.iconst 4, 1) := by decide +kernel
theorem dX10_suite_99 : decode cX10_suite 99 = .ok (.if_icmp .ne 7, 3) := by decide +kernel
theorem dX10_suite_102 : decode cX10_suite 102 = .ok (.iconst 3, 1) := by decide +kernel
theorem dX10_suite_103 : decode cX10_suite 103 = .ok (.goto 4, 3) := by decide +kernel
theorem dX10_suite_106 : decode cX10_suite 106 = .ok (.iconst 0, 1) := by decide +kernel
theorem dX10_suite_107 : decode cX10_suite 107 = .ok (.putfield 83, 3) := by decide +kernel
theorem dX10_suite_110 : decode cX10_suite 110 = .ok (.aload_n 0, 1) := by decide +kernel
theorem dX10_suite_111 : decode cX10_suite 111 = .ok (.getfield 83, 3) := by decide +kernel
theorem dX10_suite_114 : decode cX10_suite 114 = .ok (.ifCond .le 5, 3) := by decide +kernel
theorem dX10_suite_117 : decode cX10_suite 117 = .ok (.iconst 0, 1) := by decide +kernel
theorem dX10_suite_118 : decode cX10_suite 118 = .ok (.ireturn, 1) := by decide +kernel
theorem dX10_suite_119 : decode cX10_suite 119 = .ok (.aload_n 0, 1) := by decide +kernel
theorem dX10_suite_120 : decode cX10_suite 120 = .ok (.getfield 13, 3) := by decide +kernel
theorem dX10_suite_123 : decode cX10_suite 123 = .ok (.iconst 4, 1) := by decide +kernel
theorem dX10_suite_124 : decode cX10_suite 124 = .ok (.iload_n 1, 1) := by decide +kernel
theorem dX10_suite_125 : decode cX10_suite 125 = .ok (.imul, 1) := by decide +kernel
theorem dX10_suite_126 : decode cX10_suite 126 = .ok (.aload_n 0, 1) := by decide +kernel
theorem dX10_suite_127 : decode cX10_suite 127 = .ok (.getfield 7, 3) := by decide +kernel
theorem dX10_suite_130 : decode cX10_suite 130 = .ok (.iload_n 1, 1) := by decide +kernel
theorem dX10_suite_131 : decode cX10_suite 131 = .ok (.iaload, 1) := by decide +kernel
theorem dX10_suite_132 : decode cX10_suite 132 = .ok (.iadd, 1) := by decide +kernel
theorem dX10_suite_133 : decode cX10_suite 133 = .ok (.iload_n 2, 1) := by decide +kernel
theorem dX10_suite_134 : decode cX10_suite 134 = .ok (.iastore, 1) := by decide +kernel
theorem dX10_suite_135 : decode cX10_suite 135 = .ok (.aload_n 0, 1) := by decide +kernel
theorem dX10_suite_136 : decode cX10_suite 136 = .ok (.getfield 7, 3) := by decide +kernel
theorem dX10_suite_139 : decode cX10_suite 139 = .ok (.iload_n 1, 1) := by decide +kernel
theorem dX10_suite_140 : decode cX10_suite 140 = .ok (.dup2, 1) := by decide +kernel
theorem dX10_suite_141 : decode cX10_suite 141 = .ok (.iaload, 1) := by decide +kernel
theorem dX10_suite_142 : decode cX10_suite 142 = .ok (.iconst 1, 1) := by decide +kernel
theorem dX10_suite_143 : decode cX10_suite 143 = .ok (.iadd, 1) := by decide +kernel
theorem dX10_suite_144 : decode cX10_suite 144 = .ok (.iastore, 1) := by decide +kernel
theorem dX10_suite_145 : decode cX10_suite 145 = .ok (.aload_n 0, 1) := by decide +kernel
theorem dX10_suite_146 : decode cX10_suite 146 = .ok (.invokevirtual 91, 3) := by decide +kernel
theorem dX10_suite_149 : decode cX10_suite 149 = .ok (.aload_n 0, 1) := by decide +kernel
theorem dX10_suite_150 : decode cX10_suite 150 = .ok (.getfield 7, 3) := by decide +kernel
theorem dX10_suite_153 : decode cX10_suite 153 = .ok (.iload_n 1, 1) := by decide +kernel
theorem dX10_suite_154 : decode cX10_suite 154 = .ok (.iaload, 1) := by decide +kernel
theorem dX10_suite_155 : decode cX10_suite 155 = .ok (.ireturn, 1) := by decide +kernel
theorem dX10_range_0 : decode cX10_range 0 = .ok (.aload_n 0, 1) := by decide +kernel
theorem dX10_range_1 : decode cX10_range 1 = .ok (.iload_n 1, 1) := by decide +kernel
theorem dX10_range_2 : decode cX10_range 2 = .ok (.invokestatic 87, 3) := by decide +kernel
theorem dX10_range_5 : decode cX10_range 5 = .ok (.ifCond .ne 7, 3) := by decide +kernel
theorem dX10_range_8 : decode cX10_range 8 = .ok (.iconst 1, 1) := by decide +kernel
theorem dX10_range_9 : decode cX10_range 9 = .ok (.goto 24, 3) := by decide +kernel
theorem dX10_range_12 : decode cX10_range 12 = .ok (.iload_n 2, 1) := by decide +kernel
theorem dX10_range_13 : decode cX10_range 13 = .ok (.ifCond .lt 15, 3) := by decide +kernel
theorem dX10_range_16 : decode cX10_range 16 = .ok (.iload_n 2, 1) := by decide +kernel
theorem dX10_range_17 : decode cX10_range 17 = .ok (.iload_n 3, 1) := by decide +kernel
theorem dX10_range_18 : decode cX10_range 18 = .ok (.if_icmp .gt 10, 3) := by decide +kernel
theorem dX10_range_21 : decode cX10_range 21 = .ok (.iload_n 3, 1) := by decide +kernel
theorem dX10_range_22 : decode cX10_range 22 = .ok (.sipush 1000, 3) := by decide +kernel
theorem dX10_range_25 : decode cX10_range 25 = .ok (.if_icmp .le 7, 3) := by decide +kernel
theorem dX10_range_28 : decode cX10_range 28 = .ok (.iconst 2, 1) := by decide +kernel
theorem dX10_range_29 : decode cX10_range 29 = .ok (.goto 4, 3) := by decide +kernel
theorem dX10_range_32 : decode cX10_range 32 = .ok (.iconst 0, 1) := by decide +kernel
theorem dX10_range_33 : decode cX10_range 33 = .ok (.putfield 83, 3) := by decide +kernel
theorem dX10_range_36 : decode cX10_range 36 = .ok (.aload_n 0, 1) := by decide +kernel
theorem dX10_range_37 : decode cX10_range 37 = .ok (.getfield 83, 3) := by decide +kernel
theorem dX10_range_40 : decode cX10_range 40 = .ok (.ifCond .le 5, 3) := by decide +kernel
theorem dX10_range_43 : decode cX10_range 43 = .ok (.iconst 0, 1) := by decide +kernel
theorem dX10_range_44 : decode cX10_range 44 = .ok (.ireturn, 1) := by decide +kernel
theorem dX10_range_45 : decode cX10_range 45 = .ok (.aload_n 0, 1) := by decide +kernel
theorem dX10_range_46 : decode cX10_range 46 = .ok (.getfield 16, 3) := by decide +kernel
theorem dX10_range_49 : decode cX10_range 49 = .ok (.iload_n 1, 1) := by decide +kernel
theorem dX10_range_50 : decode cX10_range 50 = .ok (.iload_n 2, 1) := by decide +kernel
theorem dX10_range_51 : decode cX10_range 51 = .ok (.iastore, 1) := by decide +kernel
theorem dX10_range_52 : decode cX10_range 52 = .ok (.aload_n 0, 1) := by decide +kernel
theorem dX10_range_53 : decode cX10_range 53 = .ok (.getfield 19, 3) := by decide +kernel
theorem dX10_range_56 : decode cX10_range 56 = .ok (.iload_n 1, 1) := by decide +kernel
theorem dX10_range_57 : decode cX10_range 57 = .ok (.iload_n 3, 1) := by decide +kernel
theorem dX10_range_58 : decode cX10_range 58 = .ok (.iastore, 1) := by decide +kernel
theorem dX10_range_59 : decode cX10_range 59 = .ok (.iload_n 3, 1) := by decide +kernel
theorem dX10_range_60 : decode cX10_range 60 = .ok (.iload_n 2, 1) := by decide +kernel
theorem dX10_range_61 : decode cX10_range 61 = .ok (.isub, 1) := by decide +kernel
theorem dX10_range_62 : decode cX10_range 62 = .ok (.iconst 1, 1) := by decide +kernel
theorem dX10_range_63 : decode cX10_range 63 = .ok (.iadd, 1) := by decide +kernel
theorem dX10_range_64 : decode cX10_range 64 = .ok (.ireturn, 1) := by decide +kernel
theorem dX10_seed_0 : decode cX10_seed 0 = .ok (.aload_n 0, 1) := by decide +kernel
theorem dX10_seed_1 : decode cX10_seed 1 = .ok (.iload_n 1, 1) := by decide +kernel
theorem dX10_seed_2 : decode cX10_seed 2 = .ok (.invokestatic 87, 3) := by decide +kernel
theorem dX10_seed_5 : decode cX10_seed 5 = .ok (.ifCond .eq 7, 3) := by decide +kernel
theorem dX10_seed_8 : decode cX10_seed 8 = .ok (.iconst 0, 1) := by decide +kernel
theorem dX10_seed_9 : decode cX10_seed 9 = .ok (.goto 4, 3) := by decide +kernel
theorem dX10_seed_12 : decode cX10_seed 12 = .ok (.iconst 1, 1) := by decide +kernel
theorem dX10_seed_13 : decode cX10_seed 13 = .ok (.putfield 83, 3) := by decide +kernel
theorem dX10_seed_16 : decode cX10_seed 16 = .ok (.aload_n 0, 1) := by decide +kernel
theorem dX10_seed_17 : decode cX10_seed 17 = .ok (.getfield 83, 3) := by decide +kernel
theorem dX10_seed_20 : decode cX10_seed 20 = .ok (.ifCond .ne 10, 3) := by decide +kernel
theorem dX10_seed_23 : decode cX10_seed 23 = .ok (.aload_n 0, 1) := by decide +kernel
theorem dX10_seed_24 : decode cX10_seed 24 = .ok (.getfield 22, 3) := by decide +kernel
theorem dX10_seed_27 : decode cX10_seed 27 = .ok (.iload_n 1, 1) := by decide +kernel
theorem dX10_seed_28 : decode cX10_seed 28 = .ok (.iload_n 2, 1) := by decide +kernel
theorem dX10_seed_29 : decode cX10_seed 29 = .ok (.iastore, 1) := by decide +kernel
theorem dX10_seed_30 : decode cX10_seed 30 = .ok (.return_, 1) := by decide +kernel
theorem dX10_nextNonce_0 : decode cX10_nextNonce 0 = .ok (.aload_n 0, 1) := by decide +kernel
theorem dX10_nextNonce_1 : decode cX10_nextNonce 1 = .ok (.getfield 22, 3) := by decide +kernel
theorem dX10_nextNonce_4 : decode cX10_nextNonce 4 = .ok (.iload_n 1, 1) := by decide +kernel
theorem dX10_nextNonce_5 : decode cX10_nextNonce 5 = .ok (.aload_n 0, 1) := by decide +kernel
theorem dX10_nextNonce_6 : decode cX10_nextNonce 6 = .ok (.getfield 22, 3) := by decide +kernel
theorem dX10_nextNonce_9 : decode cX10_nextNonce 9 = .ok (.iload_n 1, 1) := by decide +kernel
theorem dX10_nextNonce_10 : decode cX10_nextNonce 10 = .ok (.iaload, 1) := by decide +kernel
theorem dX10_nextNonce_11 : decode cX10_nextNonce 11 = .ok (.ldc 94, 2) := by decide +kernel
theorem dX10_nextNonce_13 : decode cX10_nextNonce 13 = .ok (.imul, 1) := by decide +kernel
theorem dX10_nextNonce_14 : decode cX10_nextNonce 14 = .ok (.ldc 95, 2) := by decide +kernel
theorem dX10_nextNonce_16 : decode cX10_nextNonce 16 = .ok (.iadd, 1) := by decide +kernel
theorem dX10_nextNonce_17 : decode cX10_nextNonce 17 = .ok (.iastore, 1) := by decide +kernel
theorem dX10_nextNonce_18 : decode cX10_nextNonce 18 = .ok (.aload_n 0, 1) := by decide +kernel
theorem dX10_nextNonce_19 : decode cX10_nextNonce 19 = .ok (.getfield 22, 3) := by decide +kernel
theorem dX10_nextNonce_22 : decode cX10_nextNonce 22 = .ok (.iload_n 1, 1) := by decide +kernel
theorem dX10_nextNonce_23 : decode cX10_nextNonce 23 = .ok (.iaload, 1) := by decide +kernel
theorem dX10_nextNonce_24 : decode cX10_nextNonce 24 = .ok (.bipush 16, 2) := by decide +kernel
theorem dX10_nextNonce_26 : decode cX10_nextNonce 26 = .ok (.iushr, 1) := by decide +kernel
theorem dX10_nextNonce_27 : decode cX10_nextNonce 27 = .ok (.ireturn, 1) := by decide +kernel
theorem dX10_nextMark_0 : decode cX10_nextMark 0 = .ok (.aload_n 0, 1) := by decide +kernel
theorem dX10_nextMark_1 : decode cX10_nextMark 1 = .ok (.getfield 25, 3) := by decide +kernel
theorem dX10_nextMark_4 : decode cX10_nextMark 4 = .ok (.iload_n 1, 1) := by decide +kernel
theorem dX10_nextMark_5 : decode cX10_nextMark 5 = .ok (.aload_n 0, 1) := by decide +kernel
theorem dX10_nextMark_6 : decode cX10_nextMark 6 = .ok (.getfield 25, 3) := by decide +kernel
theorem dX10_nextMark_9 : decode cX10_nextMark 9 = .ok (.iload_n 1, 1) := by decide +kernel
theorem dX10_nextMark_10 : decode cX10_nextMark 10 = .ok (.iaload, 1) := by decide +kernel
theorem dX10_nextMark_11 : decode cX10_nextMark 11 = .ok (.iconst 2, 1) := by decide +kernel
theorem dX10_nextMark_12 : decode cX10_nextMark 12 = .ok (.iadd, 1) := by decide +kernel
theorem dX10_nextMark_13 : decode cX10_nextMark 13 = .ok (.iastore, 1) := by decide +kernel
theorem dX10_nextMark_14 : decode cX10_nextMark 14 = .ok (.aload_n 0, 1) := by decide +kernel
theorem dX10_nextMark_15 : decode cX10_nextMark 15 = .ok (.getfield 25, 3) := by decide +kernel
theorem dX10_nextMark_18 : decode cX10_nextMark 18 = .ok (.iload_n 1, 1) := by decide +kernel
theorem dX10_nextMark_19 : decode cX10_nextMark 19 = .ok (.iaload, 1) := by decide +kernel
theorem dX10_nextMark_20 : decode cX10_nextMark 20 = .ok (.iconst 2, 1) := by decide +kernel
theorem dX10_nextMark_21 : decode cX10_nextMark 21 = .ok (.isub, 1) := by decide +kernel
theorem dX10_nextMark_22 : decode cX10_nextMark 22 = .ok (.ireturn, 1) := by decide +kernel
theorem dX10_kid_0 : decode cX10_kid 0 = .ok (.aload_n 0, 1) := by decide +kernel
theorem dX10_kid_1 : decode cX10_kid 1 = .ok (.getfield 31, 3) := by decide +kernel
theorem dX10_kid_4 : decode cX10_kid 4 = .ok (.bipush 8, 2) := by decide +kernel
theorem dX10_kid_6 : decode cX10_kid 6 = .ok (.bipush 17, 2) := by decide +kernel
theorem dX10_kid_8 : decode cX10_kid 8 = .ok (.iload_n 1, 1) := by decide +kernel
theorem dX10_kid_9 : decode cX10_kid 9 = .ok (.imul, 1) := by decide +kernel
theorem dX10_kid_10 : decode cX10_kid 10 = .ok (.iload_n 2, 1) := by decide +kernel
theorem dX10_kid_11 : decode cX10_kid 11 = .ok (.iadd, 1) := by decide +kernel
theorem dX10_kid_12 : decode cX10_kid 12 = .ok (.imul, 1) := by decide +kernel
theorem dX10_kid_13 : decode cX10_kid 13 = .ok (.iload_n 3, 1) := by decide +kernel
theorem dX10_kid_14 : decode cX10_kid 14 = .ok (.iadd, 1) := by decide +kernel
theorem dX10_kid_15 : decode cX10_kid 15 = .ok (.iaload, 1) := by decide +kernel
theorem dX10_kid_16 : decode cX10_kid 16 = .ok (.ireturn, 1) := by decide +kernel
theorem dX10_find_0 : decode cX10_find 0 = .ok (.iconst 0, 1) := by decide +kernel
theorem dX10_find_1 : decode cX10_find 1 = .ok (.istore 4, 2) := by decide +kernel
theorem dX10_find_3 : decode cX10_find 3 = .ok (.iload 4, 2) := by decide +kernel
theorem dX10_find_5 : decode cX10_find 5 = .ok (.aload_n 0, 1) := by decide +kernel
theorem dX10_find_6 : decode cX10_find 6 = .ok (.getfield 28, 3) := by decide +kernel
theorem dX10_find_9 : decode cX10_find 9 = .ok (.iload_n 1, 1) := by decide +kernel
theorem dX10_find_10 : decode cX10_find 10 = .ok (.iaload, 1) := by decide +kernel
theorem dX10_find_11 : decode cX10_find 11 = .ok (.if_icmp .ge 24, 3) := by decide +kernel
theorem dX10_find_14 : decode cX10_find 14 = .ok (.aload_n 0, 1) := by decide +kernel
theorem dX10_find_15 : decode cX10_find 15 = .ok (.iload_n 1, 1) := by decide +kernel
theorem dX10_find_16 : decode cX10_find 16 = .ok (.iload 4, 2) := by decide +kernel
theorem dX10_find_18 : decode cX10_find 18 = .ok (.iload_n 2, 1) := by decide +kernel
theorem dX10_find_19 : decode cX10_find 19 = .ok (.invokevirtual 96, 3) := by decide +kernel
theorem dX10_find_22 : decode cX10_find 22 = .ok (.iload_n 3, 1) := by decide +kernel
theorem dX10_find_23 : decode cX10_find 23 = .ok (.if_icmp .ne 6, 3) := by decide +kernel
theorem dX10_find_26 : decode cX10_find 26 = .ok (.iload 4, 2) := by decide +kernel
theorem dX10_find_28 : decode cX10_find 28 = .ok (.ireturn, 1) := by decide +kernel
theorem dX10_find_29 : decode cX10_find 29 = .ok (.iinc 4 1, 3) := by decide +kernel
theorem dX10_find_32 : decode cX10_find 32 = .ok (.goto (-29), 3) := by decide +kernel
theorem dX10_find_35 : decode cX10_find 35 = .ok (.iconst (-1), 1) := by decide +kernel
theorem dX10_find_36 : decode cX10_find 36 = .ok (.ireturn, 1) := by decide +kernel
theorem dX10_renewing_0 : decode cX10_renewing 0 = .ok (.iconst 0, 1) := by decide +kernel
theorem dX10_renewing_1 : decode cX10_renewing 1 = .ok (.istore 4, 2) := by decide +kernel
theorem dX10_renewing_3 : decode cX10_renewing 3 = .ok (.iload 4, 2) := by decide +kernel
theorem dX10_renewing_5 : decode cX10_renewing 5 = .ok (.aload_n 0, 1) := by decide +kernel
theorem dX10_renewing_6 : decode cX10_renewing 6 = .ok (.getfield 28, 3) := by decide +kernel
theorem dX10_renewing_9 : decode cX10_renewing 9 = .ok (.iload_n 1, 1) := by decide +kernel
theorem dX10_renewing_10 : decode cX10_renewing 10 = .ok (.iaload, 1) := by decide +kernel
theorem dX10_renewing_11 : decode cX10_renewing 11 = .ok (.if_icmp .ge 37, 3) := by decide +kernel
theorem dX10_renewing_14 : decode cX10_renewing 14 = .ok (.aload_n 0, 1) := by decide +kernel
theorem dX10_renewing_15 : decode cX10_renewing 15 = .ok (.iload_n 1, 1) := by decide +kernel
theorem dX10_renewing_16 : decode cX10_renewing 16 = .ok (.iload 4, 2) := by decide +kernel
theorem dX10_renewing_18 : decode cX10_renewing 18 = .ok (.iconst 5, 1) := by decide +kernel
theorem dX10_renewing_19 : decode cX10_renewing 19 = .ok (.invokevirtual 96, 3) := by decide +kernel
theorem dX10_renewing_22 : decode cX10_renewing 22 = .ok (.iload_n 2, 1) := by decide +kernel
theorem dX10_renewing_23 : decode cX10_renewing 23 = .ok (.if_icmp .ne 19, 3) := by decide +kernel
theorem dX10_renewing_26 : decode cX10_renewing 26 = .ok (.aload_n 0, 1) := by decide +kernel
theorem dX10_renewing_27 : decode cX10_renewing 27 = .ok (.iload_n 1, 1) := by decide +kernel
theorem dX10_renewing_28 : decode cX10_renewing 28 = .ok (.iload 4, 2) := by decide +kernel
theorem dX10_renewing_30 : decode cX10_renewing 30 = .ok (.bipush 6, 2) := by decide +kernel
theorem dX10_renewing_32 : decode cX10_renewing 32 = .ok (.invokevirtual 96, 3) := by decide +kernel
theorem dX10_renewing_35 : decode cX10_renewing 35 = .ok (.iload_n 3, 1) := by decide +kernel
theorem dX10_renewing_36 : decode cX10_renewing 36 = .ok (.if_icmp .ne 6, 3) := by decide +kernel
theorem dX10_renewing_39 : decode cX10_renewing 39 = .ok (.iload 4, 2) := by decide +kernel
theorem dX10_renewing_41 : decode cX10_renewing 41 = .ok (.ireturn, 1) := by decide +kernel
theorem dX10_renewing_42 : decode cX10_renewing 42 = .ok (.iinc 4 1, 3) := by decide +kernel
theorem dX10_renewing_45 : decode cX10_renewing 45 = .ok (.goto (-42), 3) := by decide +kernel
theorem dX10_renewing_48 : decode cX10_renewing 48 = .ok (.iconst (-1), 1) := by decide +kernel
theorem dX10_renewing_49 : decode cX10_renewing 49 = .ok (.ireturn, 1) := by decide +kernel
theorem dX10_addKid_0 : decode cX10_addKid 0 = .ok (.bipush 8, 2) := by decide +kernel
theorem dX10_addKid_2 : decode cX10_addKid 2 = .ok (.bipush 17, 2) := by decide +kernel
theorem dX10_addKid_4 : decode cX10_addKid 4 = .ok (.iload_n 1, 1) := by decide +kernel
theorem dX10_addKid_5 : decode cX10_addKid 5 = .ok (.imul, 1) := by decide +kernel
theorem dX10_addKid_6 : decode cX10_addKid 6 = .ok (.aload_n 0, 1) := by decide +kernel
theorem dX10_addKid_7 : decode cX10_addKid 7 = .ok (.getfield 28, 3) := by decide +kernel
theorem dX10_addKid_10 : decode cX10_addKid 10 = .ok (.iload_n 1, 1) := by decide +kernel
theorem dX10_addKid_11 : decode cX10_addKid 11 = .ok (.iaload, 1) := by decide +kernel
theorem dX10_addKid_12 : decode cX10_addKid 12 = .ok (.iadd, 1) := by decide +kernel
theorem dX10_addKid_13 : decode cX10_addKid 13 = .ok (.imul, 1) := by decide +kernel
theorem dX10_addKid_14 : decode cX10_addKid 14 = .ok (.istore 10, 2) := by decide +kernel
theorem dX10_addKid_16 : decode cX10_addKid 16 = .ok (.aload_n 0, 1) := by decide +kernel
theorem dX10_addKid_17 : decode cX10_addKid 17 = .ok (.getfield 31, 3) := by decide +kernel
theorem dX10_addKid_20 : decode cX10_addKid 20 = .ok (.iload 10, 2) := by decide +kernel
theorem dX10_addKid_22 : decode cX10_addKid 22 = .ok (.iload_n 2, 1) := by decide +kernel
theorem dX10_addKid_23 : decode cX10_addKid 23 = .ok (.iastore, 1) := by decide +kernel
theorem dX10_addKid_24 : decode cX10_addKid 24 = .ok (.aload_n 0, 1) := by decide +kernel
theorem dX10_addKid_25 : decode cX10_addKid 25 = .ok (.getfield 31, 3) := by decide +kernel
theorem dX10_addKid_28 : decode cX10_addKid 28 = .ok (.iload 10, 2) := by decide +kernel
theorem dX10_addKid_30 : decode cX10_addKid 30 = .ok (.iconst 1, 1) := by decide +kernel
theorem dX10_addKid_31 : decode cX10_addKid 31 = .ok (.iadd, 1) := by decide +kernel
theorem dX10_addKid_32 : decode cX10_addKid 32 = .ok (.iload_n 3, 1) := by decide +kernel
theorem dX10_addKid_33 : decode cX10_addKid 33 = .ok (.iastore, 1) := by decide +kernel
theorem dX10_addKid_34 : decode cX10_addKid 34 = .ok (.aload_n 0, 1) := by decide +kernel
theorem dX10_addKid_35 : decode cX10_addKid 35 = .ok (.getfield 31, 3) := by decide +kernel
theorem dX10_addKid_38 : decode cX10_addKid 38 = .ok (.iload 10, 2) := by decide +kernel
theorem dX10_addKid_40 : decode cX10_addKid 40 = .ok (.iconst 2, 1) := by decide +kernel
theorem dX10_addKid_41 : decode cX10_addKid 41 = .ok (.iadd, 1) := by decide +kernel
theorem dX10_addKid_42 : decode cX10_addKid 42 = .ok (.iload 4, 2) := by decide +kernel
theorem dX10_addKid_44 : decode cX10_addKid 44 = .ok (.iastore, 1) := by decide +kernel
theorem dX10_addKid_45 : decode cX10_addKid 45 = .ok (.aload_n 0, 1) := by decide +kernel
theorem dX10_addKid_46 : decode cX10_addKid 46 = .ok (.getfield 31, 3) := by decide +kernel
theorem dX10_addKid_49 : decode cX10_addKid 49 = .ok (.iload 10, 2) := by decide +kernel
theorem dX10_addKid_51 : decode cX10_addKid 51 = .ok (.iconst 3, 1) := by decide +kernel
theorem dX10_addKid_52 : decode cX10_addKid 52 = .ok (.iadd, 1) := by decide +kernel
theorem dX10_addKid_53 : decode cX10_addKid 53 = .ok (.iload 5, 2) := by decide +kernel
theorem dX10_addKid_55 : decode cX10_addKid 55 = .ok (.iastore, 1) := by decide +kernel
theorem dX10_addKid_56 : decode cX10_addKid 56 = .ok (.aload_n 0, 1) := by decide +kernel
theorem dX10_addKid_57 : decode cX10_addKid 57 = .ok (.getfield 31, 3) := by decide +kernel
theorem dX10_addKid_60 : decode cX10_addKid 60 = .ok (.iload 10, 2) := by decide +kernel
theorem dX10_addKid_62 : decode cX10_addKid 62 = .ok (.iconst 4, 1) := by decide +kernel
theorem dX10_addKid_63 : decode cX10_addKid 63 = .ok (.iadd, 1) := by decide +kernel
theorem dX10_addKid_64 : decode cX10_addKid 64 = .ok (.iload 6, 2) := by decide +kernel
theorem dX10_addKid_66 : decode cX10_addKid 66 = .ok (.iastore, 1) := by decide +kernel
theorem dX10_addKid_67 : decode cX10_addKid 67 = .ok (.aload_n 0, 1) := by decide +kernel
theorem dX10_addKid_68 : decode cX10_addKid 68 = .ok (.getfield 31, 3) := by decide +kernel
theorem dX10_addKid_71 : decode cX10_addKid 71 = .ok (.iload 10, 2) := by decide +kernel
theorem dX10_addKid_73 : decode cX10_addKid 73 = .ok (.iconst 5, 1) := by decide +kernel
theorem dX10_addKid_74 : decode cX10_addKid 74 = .ok (.iadd, 1) := by decide +kernel
theorem dX10_addKid_75 : decode cX10_addKid 75 = .ok (.iload 7, 2) := by decide +kernel
theorem dX10_addKid_77 : decode cX10_addKid 77 = .ok (.iastore, 1) := by decide +kernel
theorem dX10_addKid_78 : decode cX10_addKid 78 = .ok (.aload_n 0, 1) := by decide +kernel
theorem dX10_addKid_79 : decode cX10_addKid 79 = .ok (.getfield 31, 3) := by decide +kernel
theorem dX10_addKid_82 : decode cX10_addKid 82 = .ok (.iload 10, 2) := by decide +kernel
theorem dX10_addKid_84 : decode cX10_addKid 84 = .ok (.bipush 6, 2) := by decide +kernel
theorem dX10_addKid_86 : decode cX10_addKid 86 = .ok (.iadd, 1) := by decide +kernel
theorem dX10_addKid_87 : decode cX10_addKid 87 = .ok (.iload 8, 2) := by decide +kernel
theorem dX10_addKid_89 : decode cX10_addKid 89 = .ok (.iastore, 1) := by decide +kernel
theorem dX10_addKid_90 : decode cX10_addKid 90 = .ok (.aload_n 0, 1) := by decide +kernel
theorem dX10_addKid_91 : decode cX10_addKid 91 = .ok (.getfield 31, 3) := by decide +kernel
theorem dX10_addKid_94 : decode cX10_addKid 94 = .ok (.iload 10, 2) := by decide +kernel
theorem dX10_addKid_96 : decode cX10_addKid 96 = .ok (.bipush 7, 2) := by decide +kernel
theorem dX10_addKid_98 : decode cX10_addKid 98 = .ok (.iadd, 1) := by decide +kernel
theorem dX10_addKid_99 : decode cX10_addKid 99 = .ok (.iload 9, 2) := by decide +kernel
theorem dX10_addKid_101 : decode cX10_addKid 101 = .ok (.iastore, 1) := by decide +kernel
theorem dX10_addKid_102 : decode cX10_addKid 102 = .ok (.aload_n 0, 1) := by decide +kernel
theorem dX10_addKid_103 : decode cX10_addKid 103 = .ok (.getfield 28, 3) := by decide +kernel
theorem dX10_addKid_106 : decode cX10_addKid 106 = .ok (.iload_n 1, 1) := by decide +kernel
theorem dX10_addKid_107 : decode cX10_addKid 107 = .ok (.dup2, 1) := by decide +kernel
theorem dX10_addKid_108 : decode cX10_addKid 108 = .ok (.iaload, 1) := by decide +kernel
theorem dX10_addKid_109 : decode cX10_addKid 109 = .ok (.iconst 1, 1) := by decide +kernel
theorem dX10_addKid_110 : decode cX10_addKid 110 = .ok (.iadd, 1) := by decide +kernel
theorem dX10_addKid_111 : decode cX10_addKid 111 = .ok (.iastore, 1) := by decide +kernel
theorem dX10_addKid_112 : decode cX10_addKid 112 = .ok (.return_, 1) := by decide +kernel
theorem dX10_dropKid_0 : decode cX10_dropKid 0 = .ok (.iload_n 2, 1) := by decide +kernel
theorem dX10_dropKid_1 : decode cX10_dropKid 1 = .ok (.ifCond .ge 4, 3) := by decide +kernel
theorem dX10_dropKid_4 : decode cX10_dropKid 4 = .ok (.return_, 1) := by decide +kernel
theorem dX10_dropKid_5 : decode cX10_dropKid 5 = .ok (.aload_n 0, 1) := by decide +kernel
theorem dX10_dropKid_6 : decode cX10_dropKid 6 = .ok (.getfield 28, 3) := by decide +kernel
theorem dX10_dropKid_9 : decode cX10_dropKid 9 = .ok (.iload_n 1, 1) := by decide +kernel
theorem dX10_dropKid_10 : decode cX10_dropKid 10 = .ok (.dup2, 1) := by decide +kernel
theorem dX10_dropKid_11 : decode cX10_dropKid 11 = .ok (.iaload, 1) := by decide +kernel
theorem dX10_dropKid_12 : decode cX10_dropKid 12 = .ok (.iconst 1, 1) := by decide +kernel
theorem dX10_dropKid_13 : decode cX10_dropKid 13 = .ok (.isub, 1) := by decide +kernel
theorem dX10_dropKid_14 : decode cX10_dropKid 14 = .ok (.iastore, 1) := by decide +kernel
theorem dX10_dropKid_15 : decode cX10_dropKid 15 = .ok (.bipush 8, 2) := by decide +kernel
theorem dX10_dropKid_17 : decode cX10_dropKid 17 = .ok (.bipush 17, 2) := by decide +kernel
theorem dX10_dropKid_19 : decode cX10_dropKid 19 = .ok (.iload_n 1, 1) := by decide +kernel
theorem dX10_dropKid_20 : decode cX10_dropKid 20 = .ok (.imul, 1) := by decide +kernel
theorem dX10_dropKid_21 : decode cX10_dropKid 21 = .ok (.iload_n 2, 1) := by decide +kernel
theorem dX10_dropKid_22 : decode cX10_dropKid 22 = .ok (.iadd, 1) := by decide +kernel
theorem dX10_dropKid_23 : decode cX10_dropKid 23 = .ok (.imul, 1) := by decide +kernel
theorem dX10_dropKid_24 : decode cX10_dropKid 24 = .ok (.istore_n 3, 1) := by decide +kernel
theorem dX10_dropKid_25 : decode cX10_dropKid 25 = .ok (.iload_n 3, 1) := by decide +kernel
theorem dX10_dropKid_26 : decode cX10_dropKid 26 = .ok (.bipush 8, 2) := by decide +kernel
theorem dX10_dropKid_28 : decode cX10_dropKid 28 = .ok (.bipush 17, 2) := by decide +kernel
theorem dX10_dropKid_30 : decode cX10_dropKid 30 = .ok (.iload_n 1, 1) := by decide +kernel
theorem dX10_dropKid_31 : decode cX10_dropKid 31 = .ok (.imul, 1) := by decide +kernel
theorem dX10_dropKid_32 : decode cX10_dropKid 32 = .ok (.aload_n 0, 1) := by decide +kernel
theorem dX10_dropKid_33 : decode cX10_dropKid 33 = .ok (.getfield 28, 3) := by decide +kernel
theorem dX10_dropKid_36 : decode cX10_dropKid 36 = .ok (.iload_n 1, 1) := by decide +kernel
theorem dX10_dropKid_37 : decode cX10_dropKid 37 = .ok (.iaload, 1) := by decide +kernel
theorem dX10_dropKid_38 : decode cX10_dropKid 38 = .ok (.iadd, 1) := by decide +kernel
theorem dX10_dropKid_39 : decode cX10_dropKid 39 = .ok (.imul, 1) := by decide +kernel
theorem dX10_dropKid_40 : decode cX10_dropKid 40 = .ok (.if_icmp .ge 24, 3) := by decide +kernel
theorem dX10_dropKid_43 : decode cX10_dropKid 43 = .ok (.aload_n 0, 1) := by decide +kernel
theorem dX10_dropKid_44 : decode cX10_dropKid 44 = .ok (.getfield 31, 3) := by decide +kernel
theorem dX10_dropKid_47 : decode cX10_dropKid 47 = .ok (.iload_n 3, 1) := by decide +kernel
theorem dX10_dropKid_48 : decode cX10_dropKid 48 = .ok (.aload_n 0, 1) := by decide +kernel
theorem dX10_dropKid_49 : decode cX10_dropKid 49 = .ok (.getfield 31, 3) := by decide +kernel
theorem dX10_dropKid_52 : decode cX10_dropKid 52 = .ok (.iload_n 3, 1) := by decide +kernel
theorem dX10_dropKid_53 : decode cX10_dropKid 53 = .ok (.bipush 8, 2) := by decide +kernel
theorem dX10_dropKid_55 : decode cX10_dropKid 55 = .ok (.iadd, 1) := by decide +kernel
theorem dX10_dropKid_56 : decode cX10_dropKid 56 = .ok (.iaload, 1) := by decide +kernel
theorem dX10_dropKid_57 : decode cX10_dropKid 57 = .ok (.iastore, 1) := by decide +kernel
theorem dX10_dropKid_58 : decode cX10_dropKid 58 = .ok (.iinc 3 1, 3) := by decide +kernel
theorem dX10_dropKid_61 : decode cX10_dropKid 61 = .ok (.goto (-36), 3) := by decide +kernel
theorem dX10_dropKid_64 : decode cX10_dropKid 64 = .ok (.return_, 1) := by decide +kernel
theorem dX10_addWish_0 : decode cX10_addWish 0 = .ok (.aload_n 0, 1) := by decide +kernel
theorem dX10_addWish_1 : decode cX10_addWish 1 = .ok (.getfield 37, 3) := by decide +kernel
theorem dX10_addWish_4 : decode cX10_addWish 4 = .ok (.bipush 16, 2) := by decide +kernel
theorem dX10_addWish_6 : decode cX10_addWish 6 = .ok (.iload_n 1, 1) := by decide +kernel
theorem dX10_addWish_7 : decode cX10_addWish 7 = .ok (.imul, 1) := by decide +kernel
theorem dX10_addWish_8 : decode cX10_addWish 8 = .ok (.aload_n 0, 1) := by decide +kernel
theorem dX10_addWish_9 : decode cX10_addWish 9 = .ok (.getfield 34, 3) := by decide +kernel
theorem dX10_addWish_12 : decode cX10_addWish 12 = .ok (.iload_n 1, 1) := by decide +kernel
theorem dX10_addWish_13 : decode cX10_addWish 13 = .ok (.iaload, 1) := by decide +kernel
theorem dX10_addWish_14 : decode cX10_addWish 14 = .ok (.iadd, 1) := by decide +kernel
theorem dX10_addWish_15 : decode cX10_addWish 15 = .ok (.iload_n 2, 1) := by decide +kernel
theorem dX10_addWish_16 : decode cX10_addWish 16 = .ok (.iastore, 1) := by decide +kernel
theorem dX10_addWish_17 : decode cX10_addWish 17 = .ok (.aload_n 0, 1) := by decide +kernel
theorem dX10_addWish_18 : decode cX10_addWish 18 = .ok (.getfield 40, 3) := by decide +kernel
theorem dX10_addWish_21 : decode cX10_addWish 21 = .ok (.bipush 16, 2) := by decide +kernel
theorem dX10_addWish_23 : decode cX10_addWish 23 = .ok (.iload_n 1, 1) := by decide +kernel
theorem dX10_addWish_24 : decode cX10_addWish 24 = .ok (.imul, 1) := by decide +kernel
theorem dX10_addWish_25 : decode cX10_addWish 25 = .ok (.aload_n 0, 1) := by decide +kernel
theorem dX10_addWish_26 : decode cX10_addWish 26 = .ok (.getfield 34, 3) := by decide +kernel
theorem dX10_addWish_29 : decode cX10_addWish 29 = .ok (.iload_n 1, 1) := by decide +kernel
theorem dX10_addWish_30 : decode cX10_addWish 30 = .ok (.iaload, 1) := by decide +kernel
theorem dX10_addWish_31 : decode cX10_addWish 31 = .ok (.iadd, 1) := by decide +kernel
theorem dX10_addWish_32 : decode cX10_addWish 32 = .ok (.iload_n 3, 1) := by decide +kernel
theorem dX10_addWish_33 : decode cX10_addWish 33 = .ok (.iastore, 1) := by decide +kernel
theorem dX10_addWish_34 : decode cX10_addWish 34 = .ok (.aload_n 0, 1) := by decide +kernel
theorem dX10_addWish_35 : decode cX10_addWish 35 = .ok (.getfield 34, 3) := by decide +kernel
theorem dX10_addWish_38 : decode cX10_addWish 38 = .ok (.iload_n 1, 1) := by decide +kernel
theorem dX10_addWish_39 : decode cX10_addWish 39 = .ok (.dup2, 1) := by decide +kernel
theorem dX10_addWish_40 : decode cX10_addWish 40 = .ok (.iaload, 1) := by decide +kernel
theorem dX10_addWish_41 : decode cX10_addWish 41 = .ok (.iconst 1, 1) := by decide +kernel
theorem dX10_addWish_42 : decode cX10_addWish 42 = .ok (.iadd, 1) := by decide +kernel
theorem dX10_addWish_43 : decode cX10_addWish 43 = .ok (.iastore, 1) := by decide +kernel
theorem dX10_addWish_44 : decode cX10_addWish 44 = .ok (.return_, 1) := by decide +kernel
theorem dX10_wish_0 : decode cX10_wish 0 = .ok (.iload_n 2, 1) := by decide +kernel
theorem dX10_wish_1 : decode cX10_wish 1 = .ok (.iconst 1, 1) := by decide +kernel
theorem dX10_wish_2 : decode cX10_wish 2 = .ok (.if_icmp .eq 8, 3) := by decide +kernel
theorem dX10_wish_5 : decode cX10_wish 5 = .ok (.iload_n 2, 1) := by decide +kernel
theorem dX10_wish_6 : decode cX10_wish 6 = .ok (.iconst 2, 1) := by decide +kernel
theorem dX10_wish_7 : decode cX10_wish 7 = .ok (.if_icmp .ne 7, 3) := by decide +kernel
theorem dX10_wish_10 : decode cX10_wish 10 = .ok (.iconst 1, 1) := by decide +kernel
theorem dX10_wish_11 : decode cX10_wish 11 = .ok (.goto 4, 3) := by decide +kernel
theorem dX10_wish_14 : decode cX10_wish 14 = .ok (.iconst 0, 1) := by decide +kernel
theorem dX10_wish_15 : decode cX10_wish 15 = .ok (.istore 4, 2) := by decide +kernel
theorem dX10_wish_17 : decode cX10_wish 17 = .ok (.aload_n 0, 1) := by decide +kernel
theorem dX10_wish_18 : decode cX10_wish 18 = .ok (.iload_n 1, 1) := by decide +kernel
theorem dX10_wish_19 : decode cX10_wish 19 = .ok (.invokestatic 87, 3) := by decide +kernel
theorem dX10_wish_22 : decode cX10_wish 22 = .ok (.ifCond .ne 7, 3) := by decide +kernel
theorem dX10_wish_25 : decode cX10_wish 25 = .ok (.iconst 1, 1) := by decide +kernel
theorem dX10_wish_26 : decode cX10_wish 26 = .ok (.goto 68, 3) := by decide +kernel
theorem dX10_wish_29 : decode cX10_wish 29 = .ok (.iload 4, 2) := by decide +kernel
theorem dX10_wish_31 : decode cX10_wish 31 = .ok (.ifCond .eq 21, 3) := by decide +kernel
theorem dX10_wish_34 : decode cX10_wish 34 = .ok (.iload_n 3, 1) := by decide +kernel
