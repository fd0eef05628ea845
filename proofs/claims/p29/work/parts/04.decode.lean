theorem dX0_init_0 : decode cX0_init 0 = .ok (.aload_n 0, 1) := by decide +kernel
theorem dX0_init_1 : decode cX0_init 1 = .ok (.invokespecial 3, 3) := by decide +kernel
theorem dX0_init_4 : decode cX0_init 4 = .ok (.aload_n 0, 1) := by decide +kernel
theorem dX0_init_5 : decode cX0_init 5 = .ok (.sipush 720, 3) := by decide +kernel
theorem dX0_init_8 : decode cX0_init 8 = .ok (.newarray .boolean, 2) := by decide +kernel
theorem dX0_init_10 : decode cX0_init 10 = .ok (.putfield 9, 3) := by decide +kernel
theorem dX0_init_13 : decode cX0_init 13 = .ok (.aload_n 0, 1) := by decide +kernel
theorem dX0_init_14 : decode cX0_init 14 = .ok (.sipush 720, 3) := by decide +kernel
theorem dX0_init_17 : decode cX0_init 17 = .ok (.newarray .int, 2) := by decide +kernel
theorem dX0_init_19 : decode cX0_init 19 = .ok (.putfield 15, 3) := by decide +kernel
theorem dX0_init_22 : decode cX0_init 22 = .ok (.aload_n 0, 1) := by decide +kernel
theorem dX0_init_23 : decode cX0_init 23 = .ok (.sipush 720, 3) := by decide +kernel
theorem dX0_init_26 : decode cX0_init 26 = .ok (.newarray .int, 2) := by decide +kernel
theorem dX0_init_28 : decode cX0_init 28 = .ok (.putfield 19, 3) := by decide +kernel
theorem dX0_init_31 : decode cX0_init 31 = .ok (.iconst 0, 1) := by decide +kernel
theorem dX0_init_32 : decode cX0_init 32 = .ok (.istore_n 1, 1) := by decide +kernel
theorem dX0_init_33 : decode cX0_init 33 = .ok (.iload_n 1, 1) := by decide +kernel
theorem dX0_init_34 : decode cX0_init 34 = .ok (.sipush 720, 3) := by decide +kernel
theorem dX0_init_37 : decode cX0_init 37 = .ok (.if_icmp .ge 14, 3) := by decide +kernel
theorem dX0_init_40 : decode cX0_init 40 = .ok (.aload_n 0, 1) := by decide +kernel
theorem dX0_init_41 : decode cX0_init 41 = .ok (.iload_n 1, 1) := by decide +kernel
theorem dX0_init_42 : decode cX0_init 42 = .ok (.invokevirtual 22, 3) := by decide +kernel
theorem dX0_init_45 : decode cX0_init 45 = .ok (.iinc 1 30, 3) := by decide +kernel
theorem dX0_init_48 : decode cX0_init 48 = .ok (.goto (-15), 3) := by decide +kernel
theorem dX0_init_51 : decode cX0_init 51 = .ok (.return_, 1) := by decide +kernel
theorem dX0_toggleHoliday_0 : decode cX0_toggleHoliday 0 = .ok (.iload_n 1, 1) := by decide +kernel
theorem dX0_toggleHoliday_1 : decode cX0_toggleHoliday 1 = .ok (.invokestatic 26, 3) := by decide +kernel
theorem dX0_toggleHoliday_4 : decode cX0_toggleHoliday 4 = .ok (.ifCond .ne 5, 3) := by decide +kernel
theorem dX0_toggleHoliday_7 : decode cX0_toggleHoliday 7 = .ok (.iconst 0, 1) := by decide +kernel
theorem dX0_toggleHoliday_8 : decode cX0_toggleHoliday 8 = .ok (.ireturn, 1) := by decide +kernel
theorem dX0_toggleHoliday_9 : decode cX0_toggleHoliday 9 = .ok (.aload_n 0, 1) := by decide +kernel
theorem dX0_toggleHoliday_10 : decode cX0_toggleHoliday 10 = .ok (.getfield 9, 3) := by decide +kernel
theorem dX0_toggleHoliday_13 : decode cX0_toggleHoliday 13 = .ok (.iload_n 1, 1) := by decide +kernel
theorem dX0_toggleHoliday_14 : decode cX0_toggleHoliday 14 = .ok (.aload_n 0, 1) := by decide +kernel
theorem dX0_toggleHoliday_15 : decode cX0_toggleHoliday 15 = .ok (.getfield 9, 3) := by decide +kernel
theorem dX0_toggleHoliday_18 : decode cX0_toggleHoliday 18 = .ok (.iload_n 1, 1) := by decide +kernel
theorem dX0_toggleHoliday_19 : decode cX0_toggleHoliday 19 = .ok (.baload, 1) := by decide +kernel
theorem dX0_toggleHoliday_20 : decode cX0_toggleHoliday 20 = .ok (.ifCond .ne 7, 3) := by decide +kernel
theorem dX0_toggleHoliday_23 : decode cX0_toggleHoliday 23 = .ok (.iconst 1, 1) := by decide +kernel
theorem dX0_toggleHoliday_24 : decode cX0_toggleHoliday 24 = .ok (.goto 4, 3) := by decide +kernel
theorem dX0_toggleHoliday_27 : decode cX0_toggleHoliday 27 = .ok (.iconst 0, 1) := by decide +kernel
theorem dX0_toggleHoliday_28 : decode cX0_toggleHoliday 28 = .ok (.bastore, 1) := by decide +kernel
theorem dX0_toggleHoliday_29 : decode cX0_toggleHoliday 29 = .ok (.aload_n 0, 1) := by decide +kernel
theorem dX0_toggleHoliday_30 : decode cX0_toggleHoliday 30 = .ok (.iload_n 1, 1) := by decide +kernel
theorem dX0_toggleHoliday_31 : decode cX0_toggleHoliday 31 = .ok (.invokevirtual 22, 3) := by decide +kernel
theorem dX0_toggleHoliday_34 : decode cX0_toggleHoliday 34 = .ok (.aload_n 0, 1) := by decide +kernel
theorem dX0_toggleHoliday_35 : decode cX0_toggleHoliday 35 = .ok (.getfield 9, 3) := by decide +kernel
theorem dX0_toggleHoliday_38 : decode cX0_toggleHoliday 38 = .ok (.iload_n 1, 1) := by decide +kernel
theorem dX0_toggleHoliday_39 : decode cX0_toggleHoliday 39 = .ok (.baload, 1) := by decide +kernel
theorem dX0_toggleHoliday_40 : decode cX0_toggleHoliday 40 = .ok (.ireturn, 1) := by decide +kernel
theorem dX0_works_0 : decode cX0_works 0 = .ok (.iload_n 1, 1) := by decide +kernel
theorem dX0_works_1 : decode cX0_works 1 = .ok (.invokestatic 26, 3) := by decide +kernel
theorem dX0_works_4 : decode cX0_works 4 = .ok (.ifCond .eq 24, 3) := by decide +kernel
theorem dX0_works_7 : decode cX0_works 7 = .ok (.iload_n 1, 1) := by decide +kernel
theorem dX0_works_8 : decode cX0_works 8 = .ok (.bipush 7, 2) := by decide +kernel
theorem dX0_works_10 : decode cX0_works 10 = .ok (.irem, 1) := by decide +kernel
theorem dX0_works_11 : decode cX0_works 11 = .ok (.iconst 5, 1) := by decide +kernel
theorem dX0_works_12 : decode cX0_works 12 = .ok (.if_icmp .ge 16, 3) := by decide +kernel
theorem dX0_works_15 : decode cX0_works 15 = .ok (.aload_n 0, 1) := by decide +kernel
theorem dX0_works_16 : decode cX0_works 16 = .ok (.getfield 9, 3) := by decide +kernel
theorem dX0_works_19 : decode cX0_works 19 = .ok (.iload_n 1, 1) := by decide +kernel
theorem dX0_works_20 : decode cX0_works 20 = .ok (.baload, 1) := by decide +kernel
theorem dX0_works_21 : decode cX0_works 21 = .ok (.ifCond .ne 7, 3) := by decide +kernel
theorem dX0_works_24 : decode cX0_works 24 = .ok (.iconst 1, 1) := by decide +kernel
theorem dX0_works_25 : decode cX0_works 25 = .ok (.goto 4, 3) := by decide +kernel
theorem dX0_works_28 : decode cX0_works 28 = .ok (.iconst 0, 1) := by decide +kernel
theorem dX0_works_29 : decode cX0_works 29 = .ok (.ireturn, 1) := by decide +kernel
theorem dX0_numberFromStart_0 : decode cX0_numberFromStart 0 = .ok (.iload_n 1, 1) := by decide +kernel
theorem dX0_numberFromStart_1 : decode cX0_numberFromStart 1 = .ok (.invokestatic 26, 3) := by decide +kernel
theorem dX0_numberFromStart_4 : decode cX0_numberFromStart 4 = .ok (.ifCond .eq 12, 3) := by decide +kernel
theorem dX0_numberFromStart_7 : decode cX0_numberFromStart 7 = .ok (.aload_n 0, 1) := by decide +kernel
theorem dX0_numberFromStart_8 : decode cX0_numberFromStart 8 = .ok (.getfield 15, 3) := by decide +kernel
theorem dX0_numberFromStart_11 : decode cX0_numberFromStart 11 = .ok (.iload_n 1, 1) := by decide +kernel
theorem dX0_numberFromStart_12 : decode cX0_numberFromStart 12 = .ok (.iaload, 1) := by decide +kernel
theorem dX0_numberFromStart_13 : decode cX0_numberFromStart 13 = .ok (.goto 4, 3) := by decide +kernel
theorem dX0_numberFromStart_16 : decode cX0_numberFromStart 16 = .ok (.iconst 0, 1) := by decide +kernel
theorem dX0_numberFromStart_17 : decode cX0_numberFromStart 17 = .ok (.ireturn, 1) := by decide +kernel
theorem dX0_numberFromEnd_0 : decode cX0_numberFromEnd 0 = .ok (.iload_n 1, 1) := by decide +kernel
theorem dX0_numberFromEnd_1 : decode cX0_numberFromEnd 1 = .ok (.invokestatic 26, 3) := by decide +kernel
theorem dX0_numberFromEnd_4 : decode cX0_numberFromEnd 4 = .ok (.ifCond .eq 12, 3) := by decide +kernel
theorem dX0_numberFromEnd_7 : decode cX0_numberFromEnd 7 = .ok (.aload_n 0, 1) := by decide +kernel
theorem dX0_numberFromEnd_8 : decode cX0_numberFromEnd 8 = .ok (.getfield 19, 3) := by decide +kernel
theorem dX0_numberFromEnd_11 : decode cX0_numberFromEnd 11 = .ok (.iload_n 1, 1) := by decide +kernel
theorem dX0_numberFromEnd_12 : decode cX0_numberFromEnd 12 = .ok (.iaload, 1) := by decide +kernel
theorem dX0_numberFromEnd_13 : decode cX0_numberFromEnd 13 = .ok (.goto 4, 3) := by decide +kernel
theorem dX0_numberFromEnd_16 : decode cX0_numberFromEnd 16 = .ok (.iconst 0, 1) := by decide +kernel
theorem dX0_numberFromEnd_17 : decode cX0_numberFromEnd 17 = .ok (.ireturn, 1) := by decide +kernel
theorem dX0_numberMonthOf_0 : decode cX0_numberMonthOf 0 = .ok (.iload_n 1, 1) := by decide +kernel
theorem dX0_numberMonthOf_1 : decode cX0_numberMonthOf 1 = .ok (.iload_n 1, 1) := by decide +kernel
theorem dX0_numberMonthOf_2 : decode cX0_numberMonthOf 2 = .ok (.bipush 30, 2) := by decide +kernel
theorem dX0_numberMonthOf_4 : decode cX0_numberMonthOf 4 = .ok (.irem, 1) := by decide +kernel
theorem dX0_numberMonthOf_5 : decode cX0_numberMonthOf 5 = .ok (.isub, 1) := by decide +kernel
theorem dX0_numberMonthOf_6 : decode cX0_numberMonthOf 6 = .ok (.istore_n 2, 1) := by decide +kernel
theorem dX0_numberMonthOf_7 : decode cX0_numberMonthOf 7 = .ok (.iload_n 2, 1) := by decide +kernel
theorem dX0_numberMonthOf_8 : decode cX0_numberMonthOf 8 = .ok (.bipush 30, 2) := by decide +kernel
theorem dX0_numberMonthOf_10 : decode cX0_numberMonthOf 10 = .ok (.iadd, 1) := by decide +kernel
theorem dX0_numberMonthOf_11 : decode cX0_numberMonthOf 11 = .ok (.iconst 1, 1) := by decide +kernel
theorem dX0_numberMonthOf_12 : decode cX0_numberMonthOf 12 = .ok (.isub, 1) := by decide +kernel
theorem dX0_numberMonthOf_13 : decode cX0_numberMonthOf 13 = .ok (.istore_n 3, 1) := by decide +kernel
theorem dX0_numberMonthOf_14 : decode cX0_numberMonthOf 14 = .ok (.iconst 0, 1) := by decide +kernel
theorem dX0_numberMonthOf_15 : decode cX0_numberMonthOf 15 = .ok (.istore 4, 2) := by decide +kernel
theorem dX0_numberMonthOf_17 : decode cX0_numberMonthOf 17 = .ok (.iload_n 2, 1) := by decide +kernel
theorem dX0_numberMonthOf_18 : decode cX0_numberMonthOf 18 = .ok (.istore 5, 2) := by decide +kernel
theorem dX0_numberMonthOf_20 : decode cX0_numberMonthOf 20 = .ok (.iload 5, 2) := by decide +kernel
theorem dX0_numberMonthOf_22 : decode cX0_numberMonthOf 22 = .ok (.iload_n 3, 1) := by decide +kernel
theorem dX0_numberMonthOf_23 : decode cX0_numberMonthOf 23 = .ok (.if_icmp .gt 51, 3) := by decide +kernel
theorem dX0_numberMonthOf_26 : decode cX0_numberMonthOf 26 = .ok (.iload 5, 2) := by decide +kernel
theorem dX0_numberMonthOf_28 : decode cX0_numberMonthOf 28 = .ok (.invokestatic 26, 3) := by decide +kernel
theorem dX0_numberMonthOf_31 : decode cX0_numberMonthOf 31 = .ok (.ifCond .eq 43, 3) := by decide +kernel
theorem dX0_numberMonthOf_34 : decode cX0_numberMonthOf 34 = .ok (.aload_n 0, 1) := by decide +kernel
theorem dX0_numberMonthOf_35 : decode cX0_numberMonthOf 35 = .ok (.iload 5, 2) := by decide +kernel
theorem dX0_numberMonthOf_37 : decode cX0_numberMonthOf 37 = .ok (.invokevirtual 30, 3) := by decide +kernel
theorem dX0_numberMonthOf_40 : decode cX0_numberMonthOf 40 = .ok (.ifCond .eq 6, 3) := by decide +kernel
theorem dX0_numberMonthOf_43 : decode cX0_numberMonthOf 43 = .ok (.iinc 4 1, 3) := by decide +kernel
theorem dX0_numberMonthOf_46 : decode cX0_numberMonthOf 46 = .ok (.aload_n 0, 1) := by decide +kernel
theorem dX0_numberMonthOf_47 : decode cX0_numberMonthOf 47 = .ok (.getfield 15, 3) := by decide +kernel
theorem dX0_numberMonthOf_50 : decode cX0_numberMonthOf 50 = .ok (.iload 5, 2) := by decide +kernel
theorem dX0_numberMonthOf_52 : decode cX0_numberMonthOf 52 = .ok (.aload_n 0, 1) := by decide +kernel
theorem dX0_numberMonthOf_53 : decode cX0_numberMonthOf 53 = .ok (.iload 5, 2) := by decide +kernel
theorem dX0_numberMonthOf_55 : decode cX0_numberMonthOf 55 = .ok (.invokevirtual 30, 3) := by decide +kernel
theorem dX0_numberMonthOf_58 : decode cX0_numberMonthOf 58 = .ok (.ifCond .eq 8, 3) := by decide +kernel
theorem dX0_numberMonthOf_61 : decode cX0_numberMonthOf 61 = .ok (.iload 4, 2) := by decide +kernel
theorem dX0_numberMonthOf_63 : decode cX0_numberMonthOf 63 = .ok (.goto 4, 3) := by decide +kernel
theorem dX0_numberMonthOf_66 : decode cX0_numberMonthOf 66 = .ok (.iconst 0, 1) := by decide +kernel
theorem dX0_numberMonthOf_67 : decode cX0_numberMonthOf 67 = .ok (.iastore, 1) := by decide +kernel
theorem dX0_numberMonthOf_68 : decode cX0_numberMonthOf 68 = .ok (.iinc 5 1, 3) := by decide +kernel
theorem dX0_numberMonthOf_71 : decode cX0_numberMonthOf 71 = .ok (.goto (-51), 3) := by decide +kernel
theorem dX0_numberMonthOf_74 : decode cX0_numberMonthOf 74 = .ok (.iload_n 2, 1) := by decide +kernel
theorem dX0_numberMonthOf_75 : decode cX0_numberMonthOf 75 = .ok (.istore 5, 2) := by decide +kernel
theorem dX0_numberMonthOf_77 : decode cX0_numberMonthOf 77 = .ok (.iload 5, 2) := by decide +kernel
theorem dX0_numberMonthOf_79 : decode cX0_numberMonthOf 79 = .ok (.iload_n 3, 1) := by decide +kernel
theorem dX0_numberMonthOf_80 : decode cX0_numberMonthOf 80 = .ok (.if_icmp .gt 49, 3) := by decide +kernel
theorem dX0_numberMonthOf_83 : decode cX0_numberMonthOf 83 = .ok (.iload 5, 2) := by decide +kernel
theorem dX0_numberMonthOf_85 : decode cX0_numberMonthOf 85 = .ok (.invokestatic 26, 3) := by decide +kernel
theorem dX0_numberMonthOf_88 : decode cX0_numberMonthOf 88 = .ok (.ifCond .eq 41, 3) := by decide +kernel
theorem dX0_numberMonthOf_91 : decode cX0_numberMonthOf 91 = .ok (.aload_n 0, 1) := by decide +kernel
theorem dX0_numberMonthOf_92 : decode cX0_numberMonthOf 92 = .ok (.getfield 19, 3) := by decide +kernel
theorem dX0_numberMonthOf_95 : decode cX0_numberMonthOf 95 = .ok (.iload 5, 2) := by decide +kernel
theorem dX0_numberMonthOf_97 : decode cX0_numberMonthOf 97 = .ok (.aload_n 0, 1) := by decide +kernel
theorem dX0_numberMonthOf_98 : decode cX0_numberMonthOf 98 = .ok (.iload 5, 2) := by decide +kernel
theorem dX0_numberMonthOf_100 : decode cX0_numberMonthOf 100 = .ok (.invokevirtual 30, 3) := by decide +kernel
theorem dX0_numberMonthOf_103 : decode cX0_numberMonthOf 103 = .ok (.ifCond .eq 18, 3) := by decide +kernel
theorem dX0_numberMonthOf_106 : decode cX0_numberMonthOf 106 = .ok (.iload 4, 2) := by decide +kernel
theorem dX0_numberMonthOf_108 : decode cX0_numberMonthOf 108 = .ok (.iconst 1, 1) := by decide +kernel
theorem dX0_numberMonthOf_109 : decode cX0_numberMonthOf 109 = .ok (.iadd, 1) := by decide +kernel
theorem dX0_numberMonthOf_110 : decode cX0_numberMonthOf 110 = .ok (.aload_n 0, 1) := by decide +kernel
theorem dX0_numberMonthOf_111 : decode cX0_numberMonthOf 111 = .ok (.getfield 15, 3) := by decide +kernel
theorem dX0_numberMonthOf_114 : decode cX0_numberMonthOf 114 = .ok (.iload 5, 2) := by decide +kernel
theorem dX0_numberMonthOf_116 : decode cX0_numberMonthOf 116 = .ok (.iaload, 1) := by decide +kernel
theorem dX0_numberMonthOf_117 : decode cX0_numberMonthOf 117 = .ok (.isub, 1) := by decide +kernel
theorem dX0_numberMonthOf_118 : decode cX0_numberMonthOf 118 = .ok (.goto 4, 3) := by decide +kernel
theorem dX0_numberMonthOf_121 : decode cX0_numberMonthOf 121 = .ok (.iconst 0, 1) := by decide +kernel
theorem dX0_numberMonthOf_122 : decode cX0_numberMonthOf 122 = .ok (.iastore, 1) := by decide +kernel
theorem dX0_numberMonthOf_123 : decode cX0_numberMonthOf 123 = .ok (.iinc 5 1, 3) := by decide +kernel
theorem dX0_numberMonthOf_126 : decode cX0_numberMonthOf 126 = .ok (.goto (-49), 3) := by decide +kernel
theorem dX0_numberMonthOf_129 : decode cX0_numberMonthOf 129 = .ok (.return_, 1) := by decide +kernel
theorem dX1_init_0 : decode cX1_init 0 = .ok (.aload_n 0, 1) := by decide +kernel
theorem dX1_init_1 : decode cX1_init 1 = .ok (.invokespecial 3, 3) := by decide +kernel
theorem dX1_init_4 : decode cX1_init 4 = .ok (.aload_n 0, 1) := by decide +kernel
theorem dX1_init_5 : decode cX1_init 5 = .ok (.iconst 0, 1) := by decide +kernel
theorem dX1_init_6 : decode cX1_init 6 = .ok (.putfield 9, 3) := by decide +kernel
theorem dX1_init_9 : decode cX1_init 9 = .ok (.aload_n 0, 1) := by decide +kernel
theorem dX1_init_10 : decode cX1_init 10 = .ok (.iconst 0, 1) := by decide +kernel
theorem dX1_init_11 : decode cX1_init 11 = .ok (.putfield 15, 3) := by decide +kernel
theorem dX1_init_14 : decode cX1_init 14 = .ok (.aload_n 0, 1) := by decide +kernel
theorem dX1_init_15 : decode cX1_init 15 = .ok (.iconst 0, 1) := by decide +kernel
theorem dX1_init_16 : decode cX1_init 16 = .ok (.putfield 18, 3) := by decide +kernel
theorem dX1_init_19 : decode cX1_init 19 = .ok (.aload_n 0, 1) := by decide +kernel
theorem dX1_init_20 : decode cX1_init 20 = .ok (.iconst (-1), 1) := by decide +kernel
theorem dX1_init_21 : decode cX1_init 21 = .ok (.putfield 21, 3) := by decide +kernel
theorem dX1_init_24 : decode cX1_init 24 = .ok (.aload_n 0, 1) := by decide +kernel
theorem dX1_init_25 : decode cX1_init 25 = .ok (.iconst (-1), 1) := by decide +kernel
theorem dX1_init_26 : decode cX1_init 26 = .ok (.putfield 24, 3) := by decide +kernel
theorem dX1_init_29 : decode cX1_init 29 = .ok (.aload_n 0, 1) := by decide +kernel
theorem dX1_init_30 : decode cX1_init 30 = .ok (.sipush 720, 3) := by decide +kernel
theorem dX1_init_33 : decode cX1_init 33 = .ok (.newarray .boolean, 2) := by decide +kernel
theorem dX1_init_35 : decode cX1_init 35 = .ok (.putfield 27, 3) := by decide +kernel
theorem dX1_init_38 : decode cX1_init 38 = .ok (.aload_n 0, 1) := by decide +kernel
theorem dX1_init_39 : decode cX1_init 39 = .ok (.iload_n 1, 1) := by decide +kernel
theorem dX1_init_40 : decode cX1_init 40 = .ok (.putfield 31, 3) := by decide +kernel
theorem dX1_init_43 : decode cX1_init 43 = .ok (.aload_n 0, 1) := by decide +kernel
theorem dX1_init_44 : decode cX1_init 44 = .ok (.iload_n 2, 1) := by decide +kernel
theorem dX1_init_45 : decode cX1_init 45 = .ok (.putfield 34, 3) := by decide +kernel
theorem dX1_init_48 : decode cX1_init 48 = .ok (.aload_n 0, 1) := by decide +kernel
theorem dX1_init_49 : decode cX1_init 49 = .ok (.iload_n 3, 1) := by decide +kernel
theorem dX1_init_50 : decode cX1_init 50 = .ok (.putfield 37, 3) := by decide +kernel
theorem dX1_init_53 : decode cX1_init 53 = .ok (.aload_n 0, 1) := by decide +kernel
theorem dX1_init_54 : decode cX1_init 54 = .ok (.iload 4, 2) := by decide +kernel
theorem dX1_init_56 : decode cX1_init 56 = .ok (.putfield 40, 3) := by decide +kernel
theorem dX1_init_59 : decode cX1_init 59 = .ok (.aload_n 0, 1) := by decide +kernel
theorem dX1_init_60 : decode cX1_init 60 = .ok (.iload 5, 2) := by decide +kernel
theorem dX1_init_62 : decode cX1_init 62 = .ok (.putfield 43, 3) := by decide +kernel
theorem dX1_init_65 : decode cX1_init 65 = .ok (.aload_n 0, 1) := by decide +kernel
theorem dX1_init_66 : decode cX1_init 66 = .ok (.iload 6, 2) := by decide +kernel
theorem dX1_init_68 : decode cX1_init 68 = .ok (.putfield 46, 3) := by decide +kernel
theorem dX1_init_71 : decode cX1_init 71 = .ok (.return_, 1) := by decide +kernel
theorem dX1_requires_0 : decode cX1_requires 0 = .ok (.aload_n 0, 1) := by decide +kernel
theorem dX1_requires_1 : decode cX1_requires 1 = .ok (.getfield 9, 3) := by decide +kernel
theorem dX1_requires_4 : decode cX1_requires 4 = .ok (.iconst 1, 1) := by decide +kernel
theorem dX1_requires_5 : decode cX1_requires 5 = .ok (.iload_n 1, 1) := by decide +kernel
theorem dX1_requires_6 : decode cX1_requires 6 = .ok (.ishl, 1) := by decide +kernel
theorem dX1_requires_7 : decode cX1_requires 7 = .ok (.iand, 1) := by decide +kernel
theorem dX1_requires_8 : decode cX1_requires 8 = .ok (.ifCond .eq 7, 3) := by decide +kernel
theorem dX1_requires_11 : decode cX1_requires 11 = .ok (.iconst 1, 1) := by decide +kernel
theorem dX1_requires_12 : decode cX1_requires 12 = .ok (.goto 4, 3) := by decide +kernel
theorem dX1_requires_15 : decode cX1_requires 15 = .ok (.iconst 0, 1) := by decide +kernel
theorem dX1_requires_16 : decode cX1_requires 16 = .ok (.ireturn, 1) := by decide +kernel
theorem dX1_needs_0 : decode cX1_needs 0 = .ok (.aload_n 0, 1) := by decide +kernel
theorem dX1_needs_1 : decode cX1_needs 1 = .ok (.getfield 15, 3) := by decide +kernel
theorem dX1_needs_4 : decode cX1_needs 4 = .ok (.iconst 1, 1) := by decide +kernel
theorem dX1_needs_5 : decode cX1_needs 5 = .ok (.iload_n 1, 1) := by decide +kernel
theorem dX1_needs_6 : decode cX1_needs 6 = .ok (.ishl, 1) := by decide +kernel
theorem dX1_needs_7 : decode cX1_needs 7 = .ok (.iand, 1) := by decide +kernel
theorem dX1_needs_8 : decode cX1_needs 8 = .ok (.ifCond .eq 7, 3) := by decide +kernel
theorem dX1_needs_11 : decode cX1_needs 11 = .ok (.iconst 1, 1) := by decide +kernel
theorem dX1_needs_12 : decode cX1_needs 12 = .ok (.goto 4, 3) := by decide +kernel
theorem dX1_needs_15 : decode cX1_needs 15 = .ok (.iconst 0, 1) := by decide +kernel
theorem dX1_needs_16 : decode cX1_needs 16 = .ok (.ireturn, 1) := by decide +kernel
theorem dX1_layDueDays_0 : decode cX1_layDueDays 0 = .ok (.iconst 0, 1) := by decide +kernel
theorem dX1_layDueDays_1 : decode cX1_layDueDays 1 = .ok (.istore_n 2, 1) := by decide +kernel
theorem dX1_layDueDays_2 : decode cX1_layDueDays 2 = .ok (.iconst 0, 1) := by decide +kernel
theorem dX1_layDueDays_3 : decode cX1_layDueDays 3 = .ok (.istore_n 3, 1) := by decide +kernel
theorem dX1_layDueDays_4 : decode cX1_layDueDays 4 = .ok (.iload_n 3, 1) := by decide +kernel
theorem dX1_layDueDays_5 : decode cX1_layDueDays 5 = .ok (.sipush 720, 3) := by decide +kernel
theorem dX1_layDueDays_8 : decode cX1_layDueDays 8 = .ok (.if_icmp .ge 92, 3) := by decide +kernel
theorem dX1_layDueDays_11 : decode cX1_layDueDays 11 = .ok (.aload_n 0, 1) := by decide +kernel
theorem dX1_layDueDays_12 : decode cX1_layDueDays 12 = .ok (.getfield 37, 3) := by decide +kernel
theorem dX1_layDueDays_15 : decode cX1_layDueDays 15 = .ok (.iconst 1, 1) := by decide +kernel
theorem dX1_layDueDays_16 : decode cX1_layDueDays 16 = .ok (.if_icmp .ne 11, 3) := by decide +kernel
theorem dX1_layDueDays_19 : decode cX1_layDueDays 19 = .ok (.sipush 719, 3) := by decide +kernel
theorem dX1_layDueDays_22 : decode cX1_layDueDays 22 = .ok (.iload_n 3, 1) := by decide +kernel
theorem dX1_layDueDays_23 : decode cX1_layDueDays 23 = .ok (.isub, 1) := by decide +kernel
theorem dX1_layDueDays_24 : decode cX1_layDueDays 24 = .ok (.goto 4, 3) := by decide +kernel
theorem dX1_layDueDays_27 : decode cX1_layDueDays 27 = .ok (.iload_n 3, 1) := by decide +kernel
theorem dX1_layDueDays_28 : decode cX1_layDueDays 28 = .ok (.istore 4, 2) := by decide +kernel
theorem dX1_layDueDays_30 : decode cX1_layDueDays 30 = .ok (.aload_n 1, 1) := by decide +kernel
theorem dX1_layDueDays_31 : decode cX1_layDueDays 31 = .ok (.iload 4, 2) := by decide +kernel
theorem dX1_layDueDays_33 : decode cX1_layDueDays 33 = .ok (.invokevirtual 49, 3) := by decide +kernel
theorem dX1_layDueDays_36 : decode cX1_layDueDays 36 = .ok (.istore 5, 2) := by decide +kernel
theorem dX1_layDueDays_38 : decode cX1_layDueDays 38 = .ok (.iload_n 2, 1) := by decide +kernel
theorem dX1_layDueDays_39 : decode cX1_layDueDays 39 = .ok (.ifCond .ne 13, 3) := by decide +kernel
theorem dX1_layDueDays_42 : decode cX1_layDueDays 42 = .ok (.aload_n 0, 1) := by decide +kernel
theorem dX1_layDueDays_43 : decode cX1_layDueDays 43 = .ok (.iload 4, 2) := by decide +kernel
theorem dX1_layDueDays_45 : decode cX1_layDueDays 45 = .ok (.aload_n 1, 1) := by decide +kernel
theorem dX1_layDueDays_46 : decode cX1_layDueDays 46 = .ok (.invokevirtual 55, 3) := by decide +kernel
theorem dX1_layDueDays_49 : decode cX1_layDueDays 49 = .ok (.ifCond .eq 7, 3) := by decide +kernel
theorem dX1_layDueDays_52 : decode cX1_layDueDays 52 = .ok (.iconst 1, 1) := by decide +kernel
theorem dX1_layDueDays_53 : decode cX1_layDueDays 53 = .ok (.goto 4, 3) := by decide +kernel
theorem dX1_layDueDays_56 : decode cX1_layDueDays 56 = .ok (.iconst 0, 1) := by decide +kernel
theorem dX1_layDueDays_57 : decode cX1_layDueDays 57 = .ok (.istore_n 2, 1) := by decide +kernel
theorem dX1_layDueDays_58 : decode cX1_layDueDays 58 = .ok (.aload_n 0, 1) := by decide +kernel
theorem dX1_layDueDays_59 : decode cX1_layDueDays 59 = .ok (.getfield 27, 3) := by decide +kernel
theorem dX1_layDueDays_62 : decode cX1_layDueDays 62 = .ok (.iload 4, 2) := by decide +kernel
theorem dX1_layDueDays_64 : decode cX1_layDueDays 64 = .ok (.iload 5, 2) := by decide +kernel
theorem dX1_layDueDays_66 : decode cX1_layDueDays 66 = .ok (.ifCond .eq 11, 3) := by decide +kernel
theorem dX1_layDueDays_69 : decode cX1_layDueDays 69 = .ok (.iload_n 2, 1) := by decide +kernel
theorem dX1_layDueDays_70 : decode cX1_layDueDays 70 = .ok (.ifCond .eq 7, 3) := by decide +kernel
theorem dX1_layDueDays_73 : decode cX1_layDueDays 73 = .ok (.iconst 1, 1) := by decide +kernel
theorem dX1_layDueDays_74 : decode cX1_layDueDays 74 = .ok (.goto 4, 3) := by decide +kernel
theorem dX1_layDueDays_77 : decode cX1_layDueDays 77 = .ok (.iconst 0, 1) := by decide +kernel
theorem dX1_layDueDays_78 : decode cX1_layDueDays 78 = .ok (.bastore, 1) := by decide +kernel
theorem dX1_layDueDays_79 : decode cX1_layDueDays 79 = .ok (.iload 5, 2) := by decide +kernel
theorem dX1_layDueDays_81 : decode cX1_layDueDays 81 = .ok (.ifCond .ne 11, 3) := by decide +kernel
theorem dX1_layDueDays_84 : decode cX1_layDueDays 84 = .ok (.aload_n 0, 1) := by decide +kernel
theorem dX1_layDueDays_85 : decode cX1_layDueDays 85 = .ok (.getfield 37, 3) := by decide +kernel
theorem dX1_layDueDays_88 : decode cX1_layDueDays 88 = .ok (.iconst 2, 1) := by decide +kernel
theorem dX1_layDueDays_89 : decode cX1_layDueDays 89 = .ok (.if_icmp .ne 5, 3) := by decide +kernel
theorem dX1_layDueDays_92 : decode cX1_layDueDays 92 = .ok (.iconst 0, 1) := by decide +kernel
theorem dX1_layDueDays_93 : decode cX1_layDueDays 93 = .ok (.istore_n 2, 1) := by decide +kernel
theorem dX1_layDueDays_94 : decode cX1_layDueDays 94 = .ok (.iinc 3 1, 3) := by decide +kernel
theorem dX1_layDueDays_97 : decode cX1_layDueDays 97 = .ok (.goto (-93), 3) := by decide +kernel
theorem dX1_layDueDays_100 : decode cX1_layDueDays 100 = .ok (.return_, 1) := by decide +kernel
theorem dX1_isDueOn_0 : decode cX1_isDueOn 0 = .ok (.iload_n 1, 1) := by decide +kernel
theorem dX1_isDueOn_1 : decode cX1_isDueOn 1 = .ok (.invokestatic 59, 3) := by decide +kernel
theorem dX1_isDueOn_4 : decode cX1_isDueOn 4 = .ok (.ifCond .eq 16, 3) := by decide +kernel
theorem dX1_isDueOn_7 : decode cX1_isDueOn 7 = .ok (.aload_n 0, 1) := by decide +kernel
theorem dX1_isDueOn_8 : decode cX1_isDueOn 8 = .ok (.getfield 27, 3) := by decide +kernel
theorem dX1_isDueOn_11 : decode cX1_isDueOn 11 = .ok (.iload_n 1, 1) := by decide +kernel
theorem dX1_isDueOn_12 : decode cX1_isDueOn 12 = .ok (.baload, 1) := by decide +kernel
theorem dX1_isDueOn_13 : decode cX1_isDueOn 13 = .ok (.ifCond .eq 7, 3) := by decide +kernel
theorem dX1_isDueOn_16 : decode cX1_isDueOn 16 = .ok (.iconst 1, 1) := by decide +kernel
theorem dX1_isDueOn_17 : decode cX1_isDueOn 17 = .ok (.goto 4, 3) := by decide +kernel
theorem dX1_isDueOn_20 : decode cX1_isDueOn 20 = .ok (.iconst 0, 1) := by decide +kernel
theorem dX1_isDueOn_21 : decode cX1_isDueOn 21 = .ok (.ireturn, 1) := by decide +kernel
theorem dX1_dayOfDuty_0 : decode cX1_dayOfDuty 0 = .ok (.iconst 0, 1) := by decide +kernel
theorem dX1_dayOfDuty_1 : decode cX1_dayOfDuty 1 = .ok (.istore_n 2, 1) := by decide +kernel
theorem dX1_dayOfDuty_2 : decode cX1_dayOfDuty 2 = .ok (.iconst 0, 1) := by decide +kernel
theorem dX1_dayOfDuty_3 : decode cX1_dayOfDuty 3 = .ok (.istore_n 3, 1) := by decide +kernel
theorem dX1_dayOfDuty_4 : decode cX1_dayOfDuty 4 = .ok (.iload_n 3, 1) := by decide +kernel
theorem dX1_dayOfDuty_5 : decode cX1_dayOfDuty 5 = .ok (.sipush 720, 3) := by decide +kernel
theorem dX1_dayOfDuty_8 : decode cX1_dayOfDuty 8 = .ok (.if_icmp .ge 28, 3) := by decide +kernel
theorem dX1_dayOfDuty_11 : decode cX1_dayOfDuty 11 = .ok (.aload_n 0, 1) := by decide +kernel
theorem dX1_dayOfDuty_12 : decode cX1_dayOfDuty 12 = .ok (.getfield 27, 3) := by decide +kernel
theorem dX1_dayOfDuty_15 : decode cX1_dayOfDuty 15 = .ok (.iload_n 3, 1) := by decide +kernel
theorem dX1_dayOfDuty_16 : decode cX1_dayOfDuty 16 = .ok (.baload, 1) := by decide +kernel
theorem dX1_dayOfDuty_17 : decode cX1_dayOfDuty 17 = .ok (.ifCond .eq 13, 3) := by decide +kernel
theorem dX1_dayOfDuty_20 : decode cX1_dayOfDuty 20 = .ok (.iload_n 2, 1) := by decide +kernel
theorem dX1_dayOfDuty_21 : decode cX1_dayOfDuty 21 = .ok (.iload_n 1, 1) := by decide +kernel
theorem dX1_dayOfDuty_22 : decode cX1_dayOfDuty 22 = .ok (.if_icmp .ne 5, 3) := by decide +kernel
theorem dX1_dayOfDuty_25 : decode cX1_dayOfDuty 25 = .ok (.iload_n 3, 1) := by decide +kernel
theorem dX1_dayOfDuty_26 : decode cX1_dayOfDuty 26 = .ok (.ireturn, 1) := by decide +kernel
theorem dX1_dayOfDuty_27 : decode cX1_dayOfDuty 27 = .ok (.iinc 2 1, 3) := by decide +kernel
theorem dX1_dayOfDuty_30 : decode cX1_dayOfDuty 30 = .ok (.iinc 3 1, 3) := by decide +kernel
theorem dX1_dayOfDuty_33 : decode cX1_dayOfDuty 33 = .ok (.goto (-29), 3) := by decide +kernel
theorem dX1_dayOfDuty_36 : decode cX1_dayOfDuty 36 = .ok (.iconst (-1), 1) := by decide +kernel
theorem dX1_dayOfDuty_37 : decode cX1_dayOfDuty 37 = .ok (.ireturn, 1) := by decide +kernel
theorem dX1_countDueBefore_0 : decode cX1_countDueBefore 0 = .ok (.iconst 0, 1) := by decide +kernel
theorem dX1_countDueBefore_1 : decode cX1_countDueBefore 1 = .ok (.istore_n 2, 1) := by decide +kernel
theorem dX1_countDueBefore_2 : decode cX1_countDueBefore 2 = .ok (.iconst 0, 1) := by decide +kernel
theorem dX1_countDueBefore_3 : decode cX1_countDueBefore 3 = .ok (.istore_n 3, 1) := by decide +kernel
theorem dX1_countDueBefore_4 : decode cX1_countDueBefore 4 = .ok (.iload_n 3, 1) := by decide +kernel
theorem dX1_countDueBefore_5 : decode cX1_countDueBefore 5 = .ok (.iload_n 1, 1) := by decide +kernel
theorem dX1_countDueBefore_6 : decode cX1_countDueBefore 6 = .ok (.if_icmp .ge 20, 3) := by decide +kernel
theorem dX1_countDueBefore_9 : decode cX1_countDueBefore 9 = .ok (.aload_n 0, 1) := by decide +kernel
theorem dX1_countDueBefore_10 : decode cX1_countDueBefore 10 = .ok (.iload_n 3, 1) := by decide +kernel
theorem dX1_countDueBefore_11 : decode cX1_countDueBefore 11 = .ok (.invokevirtual 62, 3) := by decide +kernel
theorem dX1_countDueBefore_14 : decode cX1_countDueBefore 14 = .ok (.ifCond .eq 6, 3) := by decide +kernel
theorem dX1_countDueBefore_17 : decode cX1_countDueBefore 17 = .ok (.iinc 2 1, 3) := by decide +kernel
theorem dX1_countDueBefore_20 : decode cX1_countDueBefore 20 = .ok (.iinc 3 1, 3) := by decide +kernel
theorem dX1_countDueBefore_23 : decode cX1_countDueBefore 23 = .ok (.goto (-19), 3) := by decide +kernel
theorem dX1_countDueBefore_26 : decode cX1_countDueBefore 26 = .ok (.iload_n 2, 1) := by decide +kernel
theorem dX1_countDueBefore_27 : decode cX1_countDueBefore 27 = .ok (.ireturn, 1) := by decide +kernel
theorem dX1_firstDueFrom_0 : decode cX1_firstDueFrom 0 = .ok (.iload_n 1, 1) := by decide +kernel
theorem dX1_firstDueFrom_1 : decode cX1_firstDueFrom 1 = .ok (.istore_n 2, 1) := by decide +kernel
theorem dX1_firstDueFrom_2 : decode cX1_firstDueFrom 2 = .ok (.iload_n 2, 1) := by decide +kernel
theorem dX1_firstDueFrom_3 : decode cX1_firstDueFrom 3 = .ok (.sipush 720, 3) := by decide +kernel
theorem dX1_firstDueFrom_6 : decode cX1_firstDueFrom 6 = .ok (.if_icmp .ge 19, 3) := by decide +kernel
theorem dX1_firstDueFrom_9 : decode cX1_firstDueFrom 9 = .ok (.aload_n 0, 1) := by decide +kernel
theorem dX1_firstDueFrom_10 : decode cX1_firstDueFrom 10 = .ok (.iload_n 2, 1) := by decide +kernel
theorem dX1_firstDueFrom_11 : decode cX1_firstDueFrom 11 = .ok (.invokevirtual 62, 3) := by decide +kernel
theorem dX1_firstDueFrom_14 : decode cX1_firstDueFrom 14 = .ok (.ifCond .eq 5, 3) := by decide +kernel
theorem dX1_firstDueFrom_17 : decode cX1_firstDueFrom 17 = .ok (.iload_n 2, 1) := by decide +kernel
theorem dX1_firstDueFrom_18 : decode cX1_firstDueFrom 18 = .ok (.ireturn, 1) := by decide +kernel
theorem dX1_firstDueFrom_19 : decode cX1_firstDueFrom 19 = .ok (.iinc 2 1, 3) := by decide +kernel
theorem dX1_firstDueFrom_22 : decode cX1_firstDueFrom 22 = .ok (.goto (-20), 3) := by decide +kernel
theorem dX1_firstDueFrom_25 : decode cX1_firstDueFrom 25 = .ok (.iconst (-1), 1) := by decide +kernel
theorem dX1_firstDueFrom_26 : decode cX1_firstDueFrom 26 = .ok (.ireturn, 1) := by decide +kernel
theorem dX1_openDay_0 : decode cX1_openDay 0 = .ok (.aload_n 0, 1) := by decide +kernel
theorem dX1_openDay_1 : decode cX1_openDay 1 = .ok (.aload_n 0, 1) := by decide +kernel
theorem dX1_openDay_2 : decode cX1_openDay 2 = .ok (.getfield 18, 3) := by decide +kernel
theorem dX1_openDay_5 : decode cX1_openDay 5 = .ok (.invokevirtual 65, 3) := by decide +kernel
theorem dX1_openDay_8 : decode cX1_openDay 8 = .ok (.ireturn, 1) := by decide +kernel
theorem dX1_hasEvidence_0 : decode cX1_hasEvidence 0 = .ok (.aload_n 0, 1) := by decide +kernel
theorem dX1_hasEvidence_1 : decode cX1_hasEvidence 1 = .ok (.getfield 21, 3) := by decide +kernel
theorem dX1_hasEvidence_4 : decode cX1_hasEvidence 4 = .ok (.iconst (-1), 1) := by decide +kernel
theorem dX1_hasEvidence_5 : decode cX1_hasEvidence 5 = .ok (.if_icmp .eq 7, 3) := by decide +kernel
theorem dX1_hasEvidence_8 : decode cX1_hasEvidence 8 = .ok (.iconst 1, 1) := by decide +kernel
theorem dX1_hasEvidence_9 : decode cX1_hasEvidence 9 = .ok (.goto 4, 3) := by decide +kernel
theorem dX1_hasEvidence_12 : decode cX1_hasEvidence 12 = .ok (.iconst 0, 1) := by decide +kernel
theorem dX1_hasEvidence_13 : decode cX1_hasEvidence 13 = .ok (.ireturn, 1) := by decide +kernel
theorem dX1_evidenceUntil_0 : decode cX1_evidenceUntil 0 = .ok (.aload_n 0, 1) := by decide +kernel
theorem dX1_evidenceUntil_1 : decode cX1_evidenceUntil 1 = .ok (.getfield 21, 3) := by decide +kernel
theorem dX1_evidenceUntil_4 : decode cX1_evidenceUntil 4 = .ok (.aload_n 0, 1) := by decide +kernel
theorem dX1_evidenceUntil_5 : decode cX1_evidenceUntil 5 = .ok (.getfield 46, 3) := by decide +kernel
theorem dX1_evidenceUntil_8 : decode cX1_evidenceUntil 8 = .ok (.iadd, 1) := by decide +kernel
theorem dX1_evidenceUntil_9 : decode cX1_evidenceUntil 9 = .ok (.ireturn, 1) := by decide +kernel
theorem dX1_walkToDue_0 : decode cX1_walkToDue 0 = .ok (.iload_n 1, 1) := by decide +kernel
theorem dX1_walkToDue_1 : decode cX1_walkToDue 1 = .ok (.istore_n 3, 1) := by decide +kernel
theorem dX1_walkToDue_2 : decode cX1_walkToDue 2 = .ok (.iload_n 3, 1) := by decide +kernel
theorem dX1_walkToDue_3 : decode cX1_walkToDue 3 = .ok (.sipush 720, 3) := by decide +kernel
theorem dX1_walkToDue_6 : decode cX1_walkToDue 6 = .ok (.if_icmp .ge 37, 3) := by decide +kernel
theorem dX1_walkToDue_9 : decode cX1_walkToDue 9 = .ok (.aload_n 2, 1) := by decide +kernel
theorem dX1_walkToDue_10 : decode cX1_walkToDue 10 = .ok (.iload_n 3, 1) := by decide +kernel
theorem dX1_walkToDue_11 : decode cX1_walkToDue 11 = .ok (.invokevirtual 49, 3) := by decide +kernel
theorem dX1_walkToDue_14 : decode cX1_walkToDue 14 = .ok (.ifCond .eq 23, 3) := by decide +kernel
theorem dX1_walkToDue_17 : decode cX1_walkToDue 17 = .ok (.aload_n 0, 1) := by decide +kernel
theorem dX1_walkToDue_18 : decode cX1_walkToDue 18 = .ok (.iload_n 3, 1) := by decide +kernel
theorem dX1_walkToDue_19 : decode cX1_walkToDue 19 = .ok (.aload_n 2, 1) := by decide +kernel
theorem dX1_walkToDue_20 : decode cX1_walkToDue 20 = .ok (.invokevirtual 55, 3) := by decide +kernel
theorem dX1_walkToDue_23 : decode cX1_walkToDue 23 = .ok (.ifCond .ne 12, 3) := by decide +kernel
theorem dX1_walkToDue_26 : decode cX1_walkToDue 26 = .ok (.aload_n 0, 1) := by decide +kernel
theorem dX1_walkToDue_27 : decode cX1_walkToDue 27 = .ok (.iload_n 3, 1) := by decide +kernel
theorem dX1_walkToDue_28 : decode cX1_walkToDue 28 = .ok (.aload_n 2, 1) := by decide +kernel
theorem dX1_walkToDue_29 : decode cX1_walkToDue 29 = .ok (.invokevirtual 69, 3) := by decide +kernel
theorem dX1_walkToDue_32 : decode cX1_walkToDue 32 = .ok (.ifCond .eq 5, 3) := by decide +kernel
theorem dX1_walkToDue_35 : decode cX1_walkToDue 35 = .ok (.iload_n 3, 1) := by decide +kernel
theorem dX1_walkToDue_36 : decode cX1_walkToDue 36 = .ok (.ireturn, 1) := by decide +kernel
theorem dX1_walkToDue_37 : decode cX1_walkToDue 37 = .ok (.iinc 3 1, 3) := by decide +kernel
theorem dX1_walkToDue_40 : decode cX1_walkToDue 40 = .ok (.goto (-38), 3) := by decide +kernel
theorem dX1_walkToDue_43 : decode cX1_walkToDue 43 = .ok (.iconst (-1), 1) := by decide +kernel
theorem dX1_walkToDue_44 : decode cX1_walkToDue 44 = .ok (.ireturn, 1) := by decide +kernel
theorem dX1_isMovedTo_0 : decode cX1_isMovedTo 0 = .ok (.aload_n 0, 1) := by decide +kernel
theorem dX1_isMovedTo_1 : decode cX1_isMovedTo 1 = .ok (.getfield 37, 3) := by decide +kernel
theorem dX1_isMovedTo_4 : decode cX1_isMovedTo 4 = .ok (.iconst 2, 1) := by decide +kernel
theorem dX1_isMovedTo_5 : decode cX1_isMovedTo 5 = .ok (.if_icmp .ne 5, 3) := by decide +kernel
theorem dX1_isMovedTo_8 : decode cX1_isMovedTo 8 = .ok (.iconst 0, 1) := by decide +kernel
theorem dX1_isMovedTo_9 : decode cX1_isMovedTo 9 = .ok (.ireturn, 1) := by decide +kernel
theorem dX1_isMovedTo_10 : decode cX1_isMovedTo 10 = .ok (.aload_n 0, 1) := by decide +kernel
theorem dX1_isMovedTo_11 : decode cX1_isMovedTo 11 = .ok (.getfield 37, 3) := by decide +kernel
theorem dX1_isMovedTo_14 : decode cX1_isMovedTo 14 = .ok (.ifCond .ne 7, 3) := by decide +kernel
theorem dX1_isMovedTo_17 : decode cX1_isMovedTo 17 = .ok (.iconst (-1), 1) := by decide +kernel
theorem dX1_isMovedTo_18 : decode cX1_isMovedTo 18 = .ok (.goto 4, 3) := by decide +kernel
theorem dX1_isMovedTo_21 : decode cX1_isMovedTo 21 = .ok (.iconst 1, 1) := by decide +kernel
theorem dX1_isMovedTo_22 : decode cX1_isMovedTo 22 = .ok (.istore_n 3, 1) := by decide +kernel
theorem dX1_isMovedTo_23 : decode cX1_isMovedTo 23 = .ok (.iload_n 1, 1) := by decide +kernel
theorem dX1_isMovedTo_24 : decode cX1_isMovedTo 24 = .ok (.iload_n 3, 1) := by decide +kernel
theorem dX1_isMovedTo_25 : decode cX1_isMovedTo 25 = .ok (.iadd, 1) := by decide +kernel
theorem dX1_isMovedTo_26 : decode cX1_isMovedTo 26 = .ok (.istore 4, 2) := by decide +kernel
theorem dX1_isMovedTo_28 : decode cX1_isMovedTo 28 = .ok (.iload 4, 2) := by decide +kernel
theorem dX1_isMovedTo_30 : decode cX1_isMovedTo 30 = .ok (.ifCond .lt 41, 3) := by decide +kernel
theorem dX1_isMovedTo_33 : decode cX1_isMovedTo 33 = .ok (.iload 4, 2) := by decide +kernel
theorem dX1_isMovedTo_35 : decode cX1_isMovedTo 35 = .ok (.sipush 720, 3) := by decide +kernel
theorem dX1_isMovedTo_38 : decode cX1_isMovedTo 38 = .ok (.if_icmp .ge 33, 3) := by decide +kernel
theorem dX1_isMovedTo_41 : decode cX1_isMovedTo 41 = .ok (.aload_n 2, 1) := by decide +kernel
theorem dX1_isMovedTo_42 : decode cX1_isMovedTo 42 = .ok (.iload 4, 2) := by decide +kernel
theorem dX1_isMovedTo_44 : decode cX1_isMovedTo 44 = .ok (.invokevirtual 49, 3) := by decide +kernel
theorem dX1_isMovedTo_47 : decode cX1_isMovedTo 47 = .ok (.ifCond .ne 24, 3) := by decide +kernel
theorem dX1_isMovedTo_50 : decode cX1_isMovedTo 50 = .ok (.aload_n 0, 1) := by decide +kernel
theorem dX1_isMovedTo_51 : decode cX1_isMovedTo 51 = .ok (.iload 4, 2) := by decide +kernel
theorem dX1_isMovedTo_53 : decode cX1_isMovedTo 53 = .ok (.aload_n 2, 1) := by decide +kernel
theorem dX1_isMovedTo_54 : decode cX1_isMovedTo 54 = .ok (.invokevirtual 55, 3) := by decide +kernel
theorem dX1_isMovedTo_57 : decode cX1_isMovedTo 57 = .ok (.ifCond .eq 5, 3) := by decide +kernel
theorem dX1_isMovedTo_60 : decode cX1_isMovedTo 60 = .ok (.iconst 1, 1) := by decide +kernel
theorem dX1_isMovedTo_61 : decode cX1_isMovedTo 61 = .ok (.ireturn, 1) := by decide +kernel
theorem dX1_isMovedTo_62 : decode cX1_isMovedTo 62 = .ok (.iload 4, 2) := by decide +kernel
theorem dX1_isMovedTo_64 : decode cX1_isMovedTo 64 = .ok (.iload_n 3, 1) := by decide +kernel
theorem dX1_isMovedTo_65 : decode cX1_isMovedTo 65 = .ok (.iadd, 1) := by decide +kernel
theorem dX1_isMovedTo_66 : decode cX1_isMovedTo 66 = .ok (.istore 4, 2) := by decide +kernel
theorem dX1_isMovedTo_68 : decode cX1_isMovedTo 68 = .ok (.goto (-40), 3) := by decide +kernel
theorem dX1_isMovedTo_71 : decode cX1_isMovedTo 71 = .ok (.iconst 0, 1) := by decide +kernel
theorem dX1_isMovedTo_72 : decode cX1_isMovedTo 72 = .ok (.ireturn, 1) := by decide +kernel
theorem dX1_isNominal_0 : decode cX1_isNominal 0 = .ok (.iload_n 1, 1) := by decide +kernel
theorem dX1_isNominal_1 : decode cX1_isNominal 1 = .ok (.aload_n 0, 1) := by decide +kernel
theorem dX1_isNominal_2 : decode cX1_isNominal 2 = .ok (.getfield 40, 3) := by decide +kernel
theorem dX1_isNominal_5 : decode cX1_isNominal 5 = .ok (.if_icmp .ge 5, 3) := by decide +kernel
theorem dX1_isNominal_8 : decode cX1_isNominal 8 = .ok (.iconst 0, 1) := by decide +kernel
theorem dX1_isNominal_9 : decode cX1_isNominal 9 = .ok (.ireturn, 1) := by decide +kernel
theorem dX1_isNominal_10 : decode cX1_isNominal 10 = .ok (.aload_n 0, 1) := by decide +kernel
theorem dX1_isNominal_11 : decode cX1_isNominal 11 = .ok (.getfield 31, 3) := by decide +kernel
theorem dX1_isNominal_14 : decode cX1_isNominal 14 = .ok (.tableswitch 88 0 2 #[26, 53, 70], 26) := by decide +kernel
theorem dX1_isNominal_40 : decode cX1_isNominal 40 = .ok (.aload_n 0, 1) := by decide +kernel
theorem dX1_isNominal_41 : decode cX1_isNominal 41 = .ok (.getfield 34, 3) := by decide +kernel
theorem dX1_isNominal_44 : decode cX1_isNominal 44 = .ok (.ifCond .le 21, 3) := by decide +kernel
theorem dX1_isNominal_47 : decode cX1_isNominal 47 = .ok (.iload_n 1, 1) := by decide +kernel
theorem dX1_isNominal_48 : decode cX1_isNominal 48 = .ok (.aload_n 0, 1) := by decide +kernel
theorem dX1_isNominal_49 : decode cX1_isNominal 49 = .ok (.getfield 40, 3) := by decide +kernel
theorem dX1_isNominal_52 : decode cX1_isNominal 52 = .ok (.isub, 1) := by decide +kernel
theorem dX1_isNominal_53 : decode cX1_isNominal 53 = .ok (.aload_n 0, 1) := by decide +kernel
theorem dX1_isNominal_54 : decode cX1_isNominal 54 = .ok (.getfield 34, 3) := by decide +kernel
theorem dX1_isNominal_57 : decode cX1_isNominal 57 = .ok (.irem, 1) := by decide +kernel
theorem dX1_isNominal_58 : decode cX1_isNominal 58 = .ok (.ifCond .ne 7, 3) := by decide +kernel
theorem dX1_isNominal_61 : decode cX1_isNominal 61 = .ok (.iconst 1, 1) := by decide +kernel
theorem dX1_isNominal_62 : decode cX1_isNominal 62 = .ok (.goto 4, 3) := by decide +kernel
theorem dX1_isNominal_65 : decode cX1_isNominal 65 = .ok (.iconst 0, 1) := by decide +kernel
theorem dX1_isNominal_66 : decode cX1_isNominal 66 = .ok (.ireturn, 1) := by decide +kernel
theorem dX1_isNominal_67 : decode cX1_isNominal 67 = .ok (.iload_n 1, 1) := by decide +kernel
theorem dX1_isNominal_68 : decode cX1_isNominal 68 = .ok (.bipush 30, 2) := by decide +kernel
theorem dX1_isNominal_70 : decode cX1_isNominal 70 = .ok (.irem, 1) := by decide +kernel
theorem dX1_isNominal_71 : decode cX1_isNominal 71 = .ok (.aload_n 0, 1) := by decide +kernel
theorem dX1_isNominal_72 : decode cX1_isNominal 72 = .ok (.getfield 34, 3) := by decide +kernel
theorem dX1_isNominal_75 : decode cX1_isNominal 75 = .ok (.if_icmp .ne 7, 3) := by decide +kernel
theorem dX1_isNominal_78 : decode cX1_isNominal 78 = .ok (.iconst 1, 1) := by decide +kernel
theorem dX1_isNominal_79 : decode cX1_isNominal 79 = .ok (.goto 4, 3) := by decide +kernel
theorem dX1_isNominal_82 : decode cX1_isNominal 82 = .ok (.iconst 0, 1) := by decide +kernel
theorem dX1_isNominal_83 : decode cX1_isNominal 83 = .ok (.ireturn, 1) := by decide +kernel
theorem dX1_isNominal_84 : decode cX1_isNominal 84 = .ok (.aload_n 2, 1) := by decide +kernel
theorem dX1_isNominal_85 : decode cX1_isNominal 85 = .ok (.iload_n 1, 1) := by decide +kernel
theorem dX1_isNominal_86 : decode cX1_isNominal 86 = .ok (.invokevirtual 72, 3) := by decide +kernel
theorem dX1_isNominal_89 : decode cX1_isNominal 89 = .ok (.aload_n 0, 1) := by decide +kernel
theorem dX1_isNominal_90 : decode cX1_isNominal 90 = .ok (.getfield 34, 3) := by decide +kernel
theorem dX1_isNominal_93 : decode cX1_isNominal 93 = .ok (.if_icmp .ne 7, 3) := by decide +kernel
theorem dX1_isNominal_96 : decode cX1_isNominal 96 = .ok (.iconst 1, 1) := by decide +kernel
theorem dX1_isNominal_97 : decode cX1_isNominal 97 = .ok (.goto 4, 3) := by decide +kernel
theorem dX1_isNominal_100 : decode cX1_isNominal 100 = .ok (.iconst 0, 1) := by decide +kernel
theorem dX1_isNominal_101 : decode cX1_isNominal 101 = .ok (.ireturn, 1) := by decide +kernel
theorem dX1_isNominal_102 : decode cX1_isNominal 102 = .ok (.aload_n 2, 1) := by decide +kernel
theorem dX1_isNominal_103 : decode cX1_isNominal 103 = .ok (.iload_n 1, 1) := by decide +kernel
theorem dX1_isNominal_104 : decode cX1_isNominal 104 = .ok (.invokevirtual 75, 3) := by decide +kernel
theorem dX1_isNominal_107 : decode cX1_isNominal 107 = .ok (.aload_n 0, 1) := by decide +kernel
theorem dX1_isNominal_108 : decode cX1_isNominal 108 = .ok (.getfield 34, 3) := by decide +kernel
theorem dX1_isNominal_111 : decode cX1_isNominal 111 = .ok (.if_icmp .ne 7, 3) := by decide +kernel
theorem dX1_isNominal_114 : decode cX1_isNominal 114 = .ok (.iconst 1, 1) := by decide +kernel
theorem dX1_isNominal_115 : decode cX1_isNominal 115 = .ok (.goto 4, 3) := by decide +kernel
theorem dX1_isNominal_118 : decode cX1_isNominal 118 = .ok (.iconst 0, 1) := by decide +kernel
theorem dX1_isNominal_119 : decode cX1_isNominal 119 = .ok (.ireturn, 1) := by decide +kernel
theorem dX2_init_0 : decode cX2_init 0 = .ok (.aload_n 0, 1) := by decide +kernel
theorem dX2_init_1 : decode cX2_init 1 = .ok (.invokespecial 3, 3) := by decide +kernel
theorem dX2_init_4 : decode cX2_init 4 = .ok (.aload_n 0, 1) := by decide +kernel
theorem dX2_init_5 : decode cX2_init 5 = .ok (.new 9, 3) := by decide +kernel
theorem dX2_init_8 : decode cX2_init 8 = .ok (.dup, 1) := by decide +kernel
theorem dX2_init_9 : decode cX2_init 9 = .ok (.invokespecial 11, 3) := by decide +kernel
theorem dX2_init_12 : decode cX2_init 12 = .ok (.putfield 12, 3) := by decide +kernel
theorem dX2_init_15 : decode cX2_init 15 = .ok (.aload_n 0, 1) := by decide +kernel
theorem dX2_init_16 : decode cX2_init 16 = .ok (.new 16, 3) := by decide +kernel
theorem dX2_init_19 : decode cX2_init 19 = .ok (.dup, 1) := by decide +kernel
theorem dX2_init_20 : decode cX2_init 20 = .ok (.invokespecial 18, 3) := by decide +kernel
theorem dX2_init_23 : decode cX2_init 23 = .ok (.putfield 19, 3) := by decide +kernel
theorem dX2_init_26 : decode cX2_init 26 = .ok (.aload_n 0, 1) := by decide +kernel
theorem dX2_init_27 : decode cX2_init 27 = .ok (.iconst 0, 1) := by decide +kernel
theorem dX2_init_28 : decode cX2_init 28 = .ok (.putfield 23, 3) := by decide +kernel
theorem dX2_init_31 : decode cX2_init 31 = .ok (.aload_n 0, 1) := by decide +kernel
theorem dX2_init_32 : decode cX2_init 32 = .ok (.sipush 720, 3) := by decide +kernel
theorem dX2_init_35 : decode cX2_init 35 = .ok (.newarray .int, 2) := by decide +kernel
theorem dX2_init_37 : decode cX2_init 37 = .ok (.putfield 27, 3) := by decide +kernel
theorem dX2_init_40 : decode cX2_init 40 = .ok (.return_, 1) := by decide +kernel
theorem dX2_holiday_0 : decode cX2_holiday 0 = .ok (.iload_n 1, 1) := by decide +kernel
theorem dX2_holiday_1 : decode cX2_holiday 1 = .ok (.invokestatic 31, 3) := by decide +kernel
theorem dX2_holiday_4 : decode cX2_holiday 4 = .ok (.aload_n 0, 1) := by decide +kernel
theorem dX2_holiday_5 : decode cX2_holiday 5 = .ok (.getfield 12, 3) := by decide +kernel
theorem dX2_holiday_8 : decode cX2_holiday 8 = .ok (.iload_n 1, 1) := by decide +kernel
theorem dX2_holiday_9 : decode cX2_holiday 9 = .ok (.invokevirtual 35, 3) := by decide +kernel
theorem dX2_holiday_12 : decode cX2_holiday 12 = .ok (.istore_n 2, 1) := by decide +kernel
theorem dX2_holiday_13 : decode cX2_holiday 13 = .ok (.iconst 0, 1) := by decide +kernel
theorem dX2_holiday_14 : decode cX2_holiday 14 = .ok (.istore_n 3, 1) := by decide +kernel
theorem dX2_holiday_15 : decode cX2_holiday 15 = .ok (.iload_n 3, 1) := by decide +kernel
theorem dX2_holiday_16 : decode cX2_holiday 16 = .ok (.aload_n 0, 1) := by decide +kernel
theorem dX2_holiday_17 : decode cX2_holiday 17 = .ok (.getfield 19, 3) := by decide +kernel
theorem dX2_holiday_20 : decode cX2_holiday 20 = .ok (.invokevirtual 39, 3) := by decide +kernel
theorem dX2_holiday_23 : decode cX2_holiday 23 = .ok (.if_icmp .ge 27, 3) := by decide +kernel
theorem dX2_holiday_26 : decode cX2_holiday 26 = .ok (.aload_n 0, 1) := by decide +kernel
theorem dX2_holiday_27 : decode cX2_holiday 27 = .ok (.getfield 19, 3) := by decide +kernel
theorem dX2_holiday_30 : decode cX2_holiday 30 = .ok (.iload_n 3, 1) := by decide +kernel
theorem dX2_holiday_31 : decode cX2_holiday 31 = .ok (.invokevirtual 43, 3) := by decide +kernel
theorem dX2_holiday_34 : decode cX2_holiday 34 = .ok (.checkcast 47, 3) := by decide +kernel
theorem dX2_holiday_37 : decode cX2_holiday 37 = .ok (.aload_n 0, 1) := by decide +kernel
theorem dX2_holiday_38 : decode cX2_holiday 38 = .ok (.getfield 12, 3) := by decide +kernel
theorem dX2_holiday_41 : decode cX2_holiday 41 = .ok (.invokevirtual 49, 3) := by decide +kernel
theorem dX2_holiday_44 : decode cX2_holiday 44 = .ok (.iinc 3 1, 3) := by decide +kernel
theorem dX2_holiday_47 : decode cX2_holiday 47 = .ok (.goto (-32), 3) := by decide +kernel
theorem dX2_holiday_50 : decode cX2_holiday 50 = .ok (.iload_n 2, 1) := by decide +kernel
theorem dX2_holiday_51 : decode cX2_holiday 51 = .ok (.ireturn, 1) := by decide +kernel
theorem dX2_isWorking_0 : decode cX2_isWorking 0 = .ok (.iload_n 1, 1) := by decide +kernel
theorem dX2_isWorking_1 : decode cX2_isWorking 1 = .ok (.invokestatic 31, 3) := by decide +kernel
theorem dX2_isWorking_4 : decode cX2_isWorking 4 = .ok (.aload_n 0, 1) := by decide +kernel
theorem dX2_isWorking_5 : decode cX2_isWorking 5 = .ok (.getfield 12, 3) := by decide +kernel
theorem dX2_isWorking_8 : decode cX2_isWorking 8 = .ok (.iload_n 1, 1) := by decide +kernel
theorem dX2_isWorking_9 : decode cX2_isWorking 9 = .ok (.invokevirtual 53, 3) := by decide +kernel
theorem dX2_isWorking_12 : decode cX2_isWorking 12 = .ok (.ireturn, 1) := by decide +kernel
theorem dX2_pass_0 : decode cX2_pass 0 = .ok (.iload_n 1, 1) := by decide +kernel
theorem dX2_pass_1 : decode cX2_pass 1 = .ok (.iconst 1, 1) := by decide +kernel
theorem dX2_pass_2 : decode cX2_pass 2 = .ok (.bipush 100, 2) := by decide +kernel
theorem dX2_pass_4 : decode cX2_pass 4 = .ok (.invokestatic 60, 3) := by decide +kernel
theorem dX2_pass_7 : decode cX2_pass 7 = .ok (.aload_n 0, 1) := by decide +kernel
theorem dX2_pass_8 : decode cX2_pass 8 = .ok (.getfield 23, 3) := by decide +kernel
theorem dX2_pass_11 : decode cX2_pass 11 = .ok (.iload_n 1, 1) := by decide +kernel
theorem dX2_pass_12 : decode cX2_pass 12 = .ok (.iadd, 1) := by decide +kernel
theorem dX2_pass_13 : decode cX2_pass 13 = .ok (.sipush 720, 3) := by decide +kernel
theorem dX2_pass_16 : decode cX2_pass 16 = .ok (.if_icmp .lt 13, 3) := by decide +kernel
theorem dX2_pass_19 : decode cX2_pass 19 = .ok (.new 64, 3) := by decide +kernel
theorem dX2_pass_22 : decode cX2_pass 22 = .ok (.dup, 1) := by decide +kernel
theorem dX2_pass_23 : decode cX2_pass 23 = .ok (.ldc 66, 2) := by decide +kernel
theorem dX2_pass_25 : decode cX2_pass 25 = .ok (.invokespecial 68, 3) := by decide +kernel
theorem dX2_pass_28 : decode cX2_pass 28 = .ok (.athrow, 1) := by decide +kernel
theorem dX2_pass_29 : decode cX2_pass 29 = .ok (.aload_n 0, 1) := by decide +kernel
theorem dX2_pass_30 : decode cX2_pass 30 = .ok (.dup, 1) := by decide +kernel
theorem dX2_pass_31 : decode cX2_pass 31 = .ok (.getfield 23, 3) := by decide +kernel
theorem dX2_pass_34 : decode cX2_pass 34 = .ok (.iload_n 1, 1) := by decide +kernel
theorem dX2_pass_35 : decode cX2_pass 35 = .ok (.iadd, 1) := by decide +kernel
theorem dX2_pass_36 : decode cX2_pass 36 = .ok (.putfield 23, 3) := by decide +kernel
theorem dX2_pass_39 : decode cX2_pass 39 = .ok (.aload_n 0, 1) := by decide +kernel
theorem dX2_pass_40 : decode cX2_pass 40 = .ok (.getfield 23, 3) := by decide +kernel
theorem dX2_pass_43 : decode cX2_pass 43 = .ok (.ireturn, 1) := by decide +kernel
theorem dX2_today_0 : decode cX2_today 0 = .ok (.aload_n 0, 1) := by decide +kernel
theorem dX2_today_1 : decode cX2_today 1 = .ok (.getfield 23, 3) := by decide +kernel
theorem dX2_today_4 : decode cX2_today 4 = .ok (.ireturn, 1) := by decide +kernel
theorem dX2_addRule_0 : decode cX2_addRule 0 = .ok (.iload 4, 2) := by decide +kernel
theorem dX2_addRule_2 : decode cX2_addRule 2 = .ok (.invokestatic 31, 3) := by decide +kernel
theorem dX2_addRule_5 : decode cX2_addRule 5 = .ok (.iload_n 1, 1) := by decide +kernel
theorem dX2_addRule_6 : decode cX2_addRule 6 = .ok (.iload_n 2, 1) := by decide +kernel
theorem dX2_addRule_7 : decode cX2_addRule 7 = .ok (.invokestatic 71, 3) := by decide +kernel
theorem dX2_addRule_10 : decode cX2_addRule 10 = .ok (.iload_n 3, 1) := by decide +kernel
theorem dX2_addRule_11 : decode cX2_addRule 11 = .ok (.invokestatic 74, 3) := by decide +kernel
theorem dX2_addRule_14 : decode cX2_addRule 14 = .ok (.iload 5, 2) := by decide +kernel
theorem dX2_addRule_16 : decode cX2_addRule 16 = .ok (.iconst 1, 1) := by decide +kernel
theorem dX2_addRule_17 : decode cX2_addRule 17 = .ok (.bipush 9, 2) := by decide +kernel
theorem dX2_addRule_19 : decode cX2_addRule 19 = .ok (.invokestatic 60, 3) := by decide +kernel
theorem dX2_addRule_22 : decode cX2_addRule 22 = .ok (.iload 6, 2) := by decide +kernel
theorem dX2_addRule_24 : decode cX2_addRule 24 = .ok (.iconst 0, 1) := by decide +kernel
theorem dX2_addRule_25 : decode cX2_addRule 25 = .ok (.bipush 99, 2) := by decide +kernel
theorem dX2_addRule_27 : decode cX2_addRule 27 = .ok (.invokestatic 60, 3) := by decide +kernel
theorem dX2_addRule_30 : decode cX2_addRule 30 = .ok (.aload_n 0, 1) := by decide +kernel
theorem dX2_addRule_31 : decode cX2_addRule 31 = .ok (.getfield 19, 3) := by decide +kernel
theorem dX2_addRule_34 : decode cX2_addRule 34 = .ok (.invokevirtual 39, 3) := by decide +kernel
theorem dX2_addRule_37 : decode cX2_addRule 37 = .ok (.bipush 8, 2) := by decide +kernel
theorem dX2_addRule_39 : decode cX2_addRule 39 = .ok (.if_icmp .lt 13, 3) := by decide +kernel
theorem dX2_addRule_42 : decode cX2_addRule 42 = .ok (.new 64, 3) := by decide +kernel
theorem dX2_addRule_45 : decode cX2_addRule 45 = .ok (.dup, 1) := by decide +kernel
theorem dX2_addRule_46 : decode cX2_addRule 46 = .ok (.ldc 77, 2) := by decide +kernel
theorem dX2_addRule_48 : decode cX2_addRule 48 = .ok (.invokespecial 68, 3) := by decide +kernel
theorem dX2_addRule_51 : decode cX2_addRule 51 = .ok (.athrow, 1) := by decide +kernel
theorem dX2_addRule_52 : decode cX2_addRule 52 = .ok (.new 47, 3) := by decide +kernel
theorem dX2_addRule_55 : decode cX2_addRule 55 = .ok (.dup, 1) := by decide +kernel
theorem dX2_addRule_56 : decode cX2_addRule 56 = .ok (.iload_n 1, 1) := by decide +kernel
theorem dX2_addRule_57 : decode cX2_addRule 57 = .ok (.iload_n 2, 1) := by decide +kernel
theorem dX2_addRule_58 : decode cX2_addRule 58 = .ok (.iload_n 3, 1) := by decide +kernel
theorem dX2_addRule_59 : decode cX2_addRule 59 = .ok (.iload 4, 2) := by decide +kernel
theorem dX2_addRule_61 : decode cX2_addRule 61 = .ok (.iload 5, 2) := by decide +kernel
theorem dX2_addRule_63 : decode cX2_addRule 63 = .ok (.iload 6, 2) := by decide +kernel
theorem dX2_addRule_65 : decode cX2_addRule 65 = .ok (.invokespecial 79, 3) := by decide +kernel
theorem dX2_addRule_68 : decode cX2_addRule 68 = .ok (.astore 7, 2) := by decide +kernel
theorem dX2_addRule_70 : decode cX2_addRule 70 = .ok (.aload 7, 2) := by decide +kernel
theorem dX2_addRule_72 : decode cX2_addRule 72 = .ok (.aload_n 0, 1) := by decide +kernel
theorem dX2_addRule_73 : decode cX2_addRule 73 = .ok (.getfield 12, 3) := by decide +kernel
theorem dX2_addRule_76 : decode cX2_addRule 76 = .ok (.invokevirtual 49, 3) := by decide +kernel
theorem dX2_addRule_79 : decode cX2_addRule 79 = .ok (.aload_n 0, 1) := by decide +kernel
theorem dX2_addRule_80 : decode cX2_addRule 80 = .ok (.getfield 19, 3) := by decide +kernel
theorem dX2_addRule_83 : decode cX2_addRule 83 = .ok (.aload 7, 2) := by decide +kernel
theorem dX2_addRule_85 : decode cX2_addRule 85 = .ok (.invokevirtual 82, 3) := by decide +kernel
theorem dX2_addRule_88 : decode cX2_addRule 88 = .ok (.pop, 1) := by decide +kernel
theorem dX2_addRule_89 : decode cX2_addRule 89 = .ok (.aload_n 0, 1) := by decide +kernel
theorem dX2_addRule_90 : decode cX2_addRule 90 = .ok (.getfield 19, 3) := by decide +kernel
theorem dX2_addRule_93 : decode cX2_addRule 93 = .ok (.invokevirtual 39, 3) := by decide +kernel
theorem dX2_addRule_96 : decode cX2_addRule 96 = .ok (.iconst 1, 1) := by decide +kernel
theorem dX2_addRule_97 : decode cX2_addRule 97 = .ok (.isub, 1) := by decide +kernel
theorem dX2_addRule_98 : decode cX2_addRule 98 = .ok (.ireturn, 1) := by decide +kernel
theorem dX2_setShift_0 : decode cX2_setShift 0 = .ok (.aload_n 0, 1) := by decide +kernel
theorem dX2_setShift_1 : decode cX2_setShift 1 = .ok (.iload_n 1, 1) := by decide +kernel
theorem dX2_setShift_2 : decode cX2_setShift 2 = .ok (.invokevirtual 86, 3) := by decide +kernel
theorem dX2_setShift_5 : decode cX2_setShift 5 = .ok (.astore_n 3, 1) := by decide +kernel
theorem dX2_setShift_6 : decode cX2_setShift 6 = .ok (.iload_n 2, 1) := by decide +kernel
theorem dX2_setShift_7 : decode cX2_setShift 7 = .ok (.invokestatic 74, 3) := by decide +kernel
theorem dX2_setShift_10 : decode cX2_setShift 10 = .ok (.aload_n 3, 1) := by decide +kernel
theorem dX2_setShift_11 : decode cX2_setShift 11 = .ok (.getfield 90, 3) := by decide +kernel
theorem dX2_setShift_14 : decode cX2_setShift 14 = .ok (.istore 4, 2) := by decide +kernel
theorem dX2_setShift_16 : decode cX2_setShift 16 = .ok (.aload_n 3, 1) := by decide +kernel
theorem dX2_setShift_17 : decode cX2_setShift 17 = .ok (.iload_n 2, 1) := by decide +kernel
theorem dX2_setShift_18 : decode cX2_setShift 18 = .ok (.putfield 90, 3) := by decide +kernel
theorem dX2_setShift_21 : decode cX2_setShift 21 = .ok (.aload_n 3, 1) := by decide +kernel
theorem dX2_setShift_22 : decode cX2_setShift 22 = .ok (.aload_n 0, 1) := by decide +kernel
theorem dX2_setShift_23 : decode cX2_setShift 23 = .ok (.getfield 12, 3) := by decide +kernel
theorem dX2_setShift_26 : decode cX2_setShift 26 = .ok (.invokevirtual 49, 3) := by decide +kernel
theorem dX2_setShift_29 : decode cX2_setShift 29 = .ok (.iload 4, 2) := by decide +kernel
theorem dX2_setShift_31 : decode cX2_setShift 31 = .ok (.ireturn, 1) := by decide +kernel
theorem dX2_require_0 : decode cX2_require 0 = .ok (.aload_n 0, 1) := by decide +kernel
theorem dX2_require_1 : decode cX2_require 1 = .ok (.iload_n 1, 1) := by decide +kernel
theorem dX2_require_2 : decode cX2_require 2 = .ok (.invokevirtual 86, 3) := by decide +kernel
theorem dX2_require_5 : decode cX2_require 5 = .ok (.astore_n 3, 1) := by decide +kernel
theorem dX2_require_6 : decode cX2_require 6 = .ok (.aload_n 0, 1) := by decide +kernel
theorem dX2_require_7 : decode cX2_require 7 = .ok (.iload_n 2, 1) := by decide +kernel
theorem dX2_require_8 : decode cX2_require 8 = .ok (.invokevirtual 86, 3) := by decide +kernel
theorem dX2_require_11 : decode cX2_require 11 = .ok (.astore 4, 2) := by decide +kernel
theorem dX2_require_13 : decode cX2_require 13 = .ok (.iload_n 1, 1) := by decide +kernel
theorem dX2_require_14 : decode cX2_require 14 = .ok (.iload_n 2, 1) := by decide +kernel
theorem dX2_require_15 : decode cX2_require 15 = .ok (.if_icmp .eq 12, 3) := by decide +kernel
theorem dX2_require_18 : decode cX2_require 18 = .ok (.aload 4, 2) := by decide +kernel
theorem dX2_require_20 : decode cX2_require 20 = .ok (.iload_n 1, 1) := by decide +kernel
theorem dX2_require_21 : decode cX2_require 21 = .ok (.invokevirtual 93, 3) := by decide +kernel
theorem dX2_require_24 : decode cX2_require 24 = .ok (.ifCond .eq 13, 3) := by decide +kernel
theorem dX2_require_27 : decode cX2_require 27 = .ok (.new 64, 3) := by decide +kernel
theorem dX2_require_30 : decode cX2_require 30 = .ok (.dup, 1) := by decide +kernel
theorem dX2_require_31 : decode cX2_require 31 = .ok (.ldc 96, 2) := by decide +kernel
theorem dX2_require_33 : decode cX2_require 33 = .ok (.invokespecial 68, 3) := by decide +kernel
theorem dX2_require_36 : decode cX2_require 36 = .ok (.athrow, 1) := by decide +kernel
theorem dX2_require_37 : decode cX2_require 37 = .ok (.aload_n 3, 1) := by decide +kernel
theorem dX2_require_38 : decode cX2_require 38 = .ok (.iload_n 2, 1) := by decide +kernel
theorem dX2_require_39 : decode cX2_require 39 = .ok (.invokevirtual 98, 3) := by decide +kernel
theorem dX2_require_42 : decode cX2_require 42 = .ok (.ifCond .eq 5, 3) := by decide +kernel
theorem dX2_require_45 : decode cX2_require 45 = .ok (.iconst 0, 1) := by decide +kernel
theorem dX2_require_46 : decode cX2_require 46 = .ok (.ireturn, 1) := by decide +kernel
theorem dX2_require_47 : decode cX2_require 47 = .ok (.aload_n 3, 1) := by decide +kernel
theorem dX2_require_48 : decode cX2_require 48 = .ok (.dup, 1) := by decide +kernel
theorem dX2_require_49 : decode cX2_require 49 = .ok (.getfield 101, 3) := by decide +kernel
theorem dX2_require_52 : decode cX2_require 52 = .ok (.iconst 1, 1) := by decide +kernel
theorem dX2_require_53 : decode cX2_require 53 = .ok (.iload_n 2, 1) := by decide +kernel
theorem dX2_require_54 : decode cX2_require 54 = .ok (.ishl, 1) := by decide +kernel
theorem dX2_require_55 : decode cX2_require 55 = .ok (.ior, 1) := by decide +kernel
theorem dX2_require_56 : decode cX2_require 56 = .ok (.putfield 101, 3) := by decide +kernel
theorem dX2_require_59 : decode cX2_require 59 = .ok (.aload_n 0, 1) := by decide +kernel
theorem dX2_require_60 : decode cX2_require 60 = .ok (.iload_n 1, 1) := by decide +kernel
theorem dX2_require_61 : decode cX2_require 61 = .ok (.aload 4, 2) := by decide +kernel
theorem dX2_require_63 : decode cX2_require 63 = .ok (.getfield 104, 3) := by decide +kernel
theorem dX2_require_66 : decode cX2_require 66 = .ok (.iconst 1, 1) := by decide +kernel
theorem dX2_require_67 : decode cX2_require 67 = .ok (.iload_n 2, 1) := by decide +kernel
theorem dX2_require_68 : decode cX2_require 68 = .ok (.ishl, 1) := by decide +kernel
theorem dX2_require_69 : decode cX2_require 69 = .ok (.ior, 1) := by decide +kernel
theorem dX2_require_70 : decode cX2_require 70 = .ok (.invokevirtual 107, 3) := by decide +kernel
theorem dX2_require_73 : decode cX2_require 73 = .ok (.iconst 1, 1) := by decide +kernel
theorem dX2_require_74 : decode cX2_require 74 = .ok (.ireturn, 1) := by decide +kernel
theorem dX2_rules_0 : decode cX2_rules 0 = .ok (.aload_n 0, 1) := by decide +kernel
theorem dX2_rules_1 : decode cX2_rules 1 = .ok (.getfield 19, 3) := by decide +kernel
theorem dX2_rules_4 : decode cX2_rules 4 = .ok (.invokevirtual 39, 3) := by decide +kernel
theorem dX2_rules_7 : decode cX2_rules 7 = .ok (.ireturn, 1) := by decide +kernel
theorem dX2_dueDay_0 : decode cX2_dueDay 0 = .ok (.aload_n 0, 1) := by decide +kernel
theorem dX2_dueDay_1 : decode cX2_dueDay 1 = .ok (.iload_n 1, 1) := by decide +kernel
theorem dX2_dueDay_2 : decode cX2_dueDay 2 = .ok (.invokevirtual 86, 3) := by decide +kernel
theorem dX2_dueDay_5 : decode cX2_dueDay 5 = .ok (.astore_n 3, 1) := by decide +kernel
theorem dX2_dueDay_6 : decode cX2_dueDay 6 = .ok (.iload_n 2, 1) := by decide +kernel
theorem dX2_dueDay_7 : decode cX2_dueDay 7 = .ok (.invokestatic 110, 3) := by decide +kernel
theorem dX2_dueDay_10 : decode cX2_dueDay 10 = .ok (.aload_n 3, 1) := by decide +kernel
theorem dX2_dueDay_11 : decode cX2_dueDay 11 = .ok (.iload_n 2, 1) := by decide +kernel
theorem dX2_dueDay_12 : decode cX2_dueDay 12 = .ok (.invokevirtual 113, 3) := by decide +kernel
theorem dX2_dueDay_15 : decode cX2_dueDay 15 = .ok (.ireturn, 1) := by decide +kernel
theorem dX2_duties_0 : decode cX2_duties 0 = .ok (.aload_n 0, 1) := by decide +kernel
theorem dX2_duties_1 : decode cX2_duties 1 = .ok (.iload_n 1, 1) := by decide +kernel
theorem dX2_duties_2 : decode cX2_duties 2 = .ok (.invokevirtual 86, 3) := by decide +kernel
theorem dX2_duties_5 : decode cX2_duties 5 = .ok (.sipush 720, 3) := by decide +kernel
theorem dX2_duties_8 : decode cX2_duties 8 = .ok (.invokevirtual 117, 3) := by decide +kernel
theorem dX2_duties_11 : decode cX2_duties 11 = .ok (.ireturn, 1) := by decide +kernel
theorem dX2_nextDue_0 : decode cX2_nextDue 0 = .ok (.aload_n 0, 1) := by decide +kernel
theorem dX2_nextDue_1 : decode cX2_nextDue 1 = .ok (.iload_n 1, 1) := by decide +kernel
theorem dX2_nextDue_2 : decode cX2_nextDue 2 = .ok (.invokevirtual 86, 3) := by decide +kernel
theorem dX2_nextDue_5 : decode cX2_nextDue 5 = .ok (.astore_n 3, 1) := by decide +kernel
theorem dX2_nextDue_6 : decode cX2_nextDue 6 = .ok (.iload_n 2, 1) := by decide +kernel
theorem dX2_nextDue_7 : decode cX2_nextDue 7 = .ok (.invokestatic 31, 3) := by decide +kernel
theorem dX2_nextDue_10 : decode cX2_nextDue 10 = .ok (.aload_n 3, 1) := by decide +kernel
theorem dX2_nextDue_11 : decode cX2_nextDue 11 = .ok (.iload_n 2, 1) := by decide +kernel
theorem dX2_nextDue_12 : decode cX2_nextDue 12 = .ok (.invokevirtual 120, 3) := by decide +kernel
theorem dX2_nextDue_15 : decode cX2_nextDue 15 = .ok (.ireturn, 1) := by decide +kernel
theorem dX2_nextDueByWalking_0 : decode cX2_nextDueByWalking 0 = .ok (.aload_n 0, 1) := by decide +kernel
theorem dX2_nextDueByWalking_1 : decode cX2_nextDueByWalking 1 = .ok (.iload_n 1, 1) := by decide +kernel
theorem dX2_nextDueByWalking_2 : decode cX2_nextDueByWalking 2 = .ok (.invokevirtual 86, 3) := by decide +kernel
theorem dX2_nextDueByWalking_5 : decode cX2_nextDueByWalking 5 = .ok (.astore_n 3, 1) := by decide +kernel
theorem dX2_nextDueByWalking_6 : decode cX2_nextDueByWalking 6 = .ok (.iload_n 2, 1) := by decide +kernel
theorem dX2_nextDueByWalking_7 : decode cX2_nextDueByWalking 7 = .ok (.invokestatic 31, 3) := by decide +kernel
theorem dX2_nextDueByWalking_10 : decode cX2_nextDueByWalking 10 = .ok (.aload_n 3, 1) := by decide +kernel
theorem dX2_nextDueByWalking_11 : decode cX2_nextDueByWalking 11 = .ok (.iload_n 2, 1) := by decide +kernel
theorem dX2_nextDueByWalking_12 : decode cX2_nextDueByWalking 12 = .ok (.aload_n 0, 1) := by decide +kernel
theorem dX2_nextDueByWalking_13 : decode cX2_nextDueByWalking 13 = .ok (.getfield 12, 3) := by decide +kernel
theorem dX2_nextDueByWalking_16 : decode cX2_nextDueByWalking 16 = .ok (.invokevirtual 123, 3) := by decide +kernel
theorem dX2_nextDueByWalking_19 : decode cX2_nextDueByWalking 19 = .ok (.ireturn, 1) := by decide +kernel
theorem dX2_finish_0 : decode cX2_finish 0 = .ok (.aload_n 0, 1) := by decide +kernel
theorem dX2_finish_1 : decode cX2_finish 1 = .ok (.iload_n 1, 1) := by decide +kernel
theorem dX2_finish_2 : decode cX2_finish 2 = .ok (.invokevirtual 86, 3) := by decide +kernel
theorem dX2_finish_5 : decode cX2_finish 5 = .ok (.astore_n 2, 1) := by decide +kernel
theorem dX2_finish_6 : decode cX2_finish 6 = .ok (.aload_n 2, 1) := by decide +kernel
theorem dX2_finish_7 : decode cX2_finish 7 = .ok (.invokevirtual 130, 3) := by decide +kernel
theorem dX2_finish_10 : decode cX2_finish 10 = .ok (.istore_n 3, 1) := by decide +kernel
theorem dX2_finish_11 : decode cX2_finish 11 = .ok (.iload_n 3, 1) := by decide +kernel
theorem dX2_finish_12 : decode cX2_finish 12 = .ok (.iconst (-1), 1) := by decide +kernel
theorem dX2_finish_13 : decode cX2_finish 13 = .ok (.if_icmp .ne 13, 3) := by decide +kernel
theorem dX2_finish_16 : decode cX2_finish 16 = .ok (.new 133, 3) := by decide +kernel
theorem dX2_finish_19 : decode cX2_finish 19 = .ok (.dup, 1) := by decide +kernel
theorem dX2_finish_20 : decode cX2_finish 20 = .ok (.ldc 135, 2) := by decide +kernel
theorem dX2_finish_22 : decode cX2_finish 22 = .ok (.invokespecial 137, 3) := by decide +kernel
theorem dX2_finish_25 : decode cX2_finish 25 = .ok (.athrow, 1) := by decide +kernel
theorem dX2_finish_26 : decode cX2_finish 26 = .ok (.aload_n 0, 1) := by decide +kernel
theorem dX2_finish_27 : decode cX2_finish 27 = .ok (.invokevirtual 138, 3) := by decide +kernel
theorem dX2_finish_30 : decode cX2_finish 30 = .ok (.aload_n 0, 1) := by decide +kernel
theorem dX2_finish_31 : decode cX2_finish 31 = .ok (.aload_n 2, 1) := by decide +kernel
theorem dX2_finish_32 : decode cX2_finish 32 = .ok (.invokevirtual 141, 3) := by decide +kernel
theorem dX2_finish_35 : decode cX2_finish 35 = .ok (.iconst (-1), 1) := by decide +kernel
theorem dX2_finish_36 : decode cX2_finish 36 = .ok (.if_icmp .eq 13, 3) := by decide +kernel
theorem dX2_finish_39 : decode cX2_finish 39 = .ok (.new 64, 3) := by decide +kernel
theorem dX2_finish_42 : decode cX2_finish 42 = .ok (.dup, 1) := by decide +kernel
theorem dX2_finish_43 : decode cX2_finish 43 = .ok (.ldc 145, 2) := by decide +kernel
theorem dX2_finish_45 : decode cX2_finish 45 = .ok (.invokespecial 68, 3) := by decide +kernel
theorem dX2_finish_48 : decode cX2_finish 48 = .ok (.athrow, 1) := by decide +kernel
theorem dX2_finish_49 : decode cX2_finish 49 = .ok (.aload_n 2, 1) := by decide +kernel
theorem dX2_finish_50 : decode cX2_finish 50 = .ok (.dup, 1) := by decide +kernel
theorem dX2_finish_51 : decode cX2_finish 51 = .ok (.getfield 147, 3) := by decide +kernel
theorem dX2_finish_54 : decode cX2_finish 54 = .ok (.iconst 1, 1) := by decide +kernel
theorem dX2_finish_55 : decode cX2_finish 55 = .ok (.iadd, 1) := by decide +kernel
theorem dX2_finish_56 : decode cX2_finish 56 = .ok (.putfield 147, 3) := by decide +kernel
theorem dX2_finish_59 : decode cX2_finish 59 = .ok (.aload_n 2, 1) := by decide +kernel
theorem dX2_finish_60 : decode cX2_finish 60 = .ok (.aload_n 0, 1) := by decide +kernel
theorem dX2_finish_61 : decode cX2_finish 61 = .ok (.getfield 23, 3) := by decide +kernel
theorem dX2_finish_64 : decode cX2_finish 64 = .ok (.putfield 150, 3) := by decide +kernel
theorem dX2_finish_67 : decode cX2_finish 67 = .ok (.aload_n 0, 1) := by decide +kernel
theorem dX2_finish_68 : decode cX2_finish 68 = .ok (.getfield 23, 3) := by decide +kernel
theorem dX2_finish_71 : decode cX2_finish 71 = .ok (.iload_n 3, 1) := by decide +kernel
theorem dX2_finish_72 : decode cX2_finish 72 = .ok (.isub, 1) := by decide +kernel
theorem dX2_finish_73 : decode cX2_finish 73 = .ok (.ireturn, 1) := by decide +kernel
theorem dX2_open_0 : decode cX2_open 0 = .ok (.aload_n 0, 1) := by decide +kernel
theorem dX2_open_1 : decode cX2_open 1 = .ok (.iload_n 1, 1) := by decide +kernel
theorem dX2_open_2 : decode cX2_open 2 = .ok (.invokevirtual 86, 3) := by decide +kernel
theorem dX2_open_5 : decode cX2_open 5 = .ok (.invokevirtual 130, 3) := by decide +kernel
theorem dX2_open_8 : decode cX2_open 8 = .ok (.ireturn, 1) := by decide +kernel
theorem dX2_finished_0 : decode cX2_finished 0 = .ok (.aload_n 0, 1) := by decide +kernel
theorem dX2_finished_1 : decode cX2_finished 1 = .ok (.iload_n 1, 1) := by decide +kernel
theorem dX2_finished_2 : decode cX2_finished 2 = .ok (.invokevirtual 86, 3) := by decide +kernel
theorem dX2_finished_5 : decode cX2_finished 5 = .ok (.getfield 147, 3) := by decide +kernel
theorem dX2_finished_8 : decode cX2_finished 8 = .ok (.ireturn, 1) := by decide +kernel
theorem dX2_blockedBy_0 : decode cX2_blockedBy 0 = .ok (.aload_n 0, 1) := by decide +kernel
theorem dX2_blockedBy_1 : decode cX2_blockedBy 1 = .ok (.iload_n 1, 1) := by decide +kernel
theorem dX2_blockedBy_2 : decode cX2_blockedBy 2 = .ok (.invokevirtual 86, 3) := by decide +kernel
theorem dX2_blockedBy_5 : decode cX2_blockedBy 5 = .ok (.astore_n 2, 1) := by decide +kernel
theorem dX2_blockedBy_6 : decode cX2_blockedBy 6 = .ok (.aload_n 0, 1) := by decide +kernel
theorem dX2_blockedBy_7 : decode cX2_blockedBy 7 = .ok (.invokevirtual 138, 3) := by decide +kernel
theorem dX2_blockedBy_10 : decode cX2_blockedBy 10 = .ok (.aload_n 0, 1) := by decide +kernel
theorem dX2_blockedBy_11 : decode cX2_blockedBy 11 = .ok (.aload_n 2, 1) := by decide +kernel
theorem dX2_blockedBy_12 : decode cX2_blockedBy 12 = .ok (.invokevirtual 141, 3) := by decide +kernel
theorem dX2_blockedBy_15 : decode cX2_blockedBy 15 = .ok (.ireturn, 1) := by decide +kernel
theorem dX2_order_0 : decode cX2_order 0 = .ok (.iload_n 1, 1) := by decide +kernel
theorem dX2_order_1 : decode cX2_order 1 = .ok (.invokestatic 31, 3) := by decide +kernel
theorem dX2_order_4 : decode cX2_order 4 = .ok (.iload_n 2, 1) := by decide +kernel
theorem dX2_order_5 : decode cX2_order 5 = .ok (.invokestatic 110, 3) := by decide +kernel
theorem dX2_order_8 : decode cX2_order 8 = .ok (.aload_n 0, 1) := by decide +kernel
theorem dX2_order_9 : decode cX2_order 9 = .ok (.invokevirtual 138, 3) := by decide +kernel
theorem dX2_order_12 : decode cX2_order 12 = .ok (.iconst 0, 1) := by decide +kernel
theorem dX2_order_13 : decode cX2_order 13 = .ok (.istore_n 3, 1) := by decide +kernel
theorem dX2_order_14 : decode cX2_order 14 = .ok (.iload_n 3, 1) := by decide +kernel
theorem dX2_order_15 : decode cX2_order 15 = .ok (.sipush 5760, 3) := by decide +kernel
theorem dX2_order_18 : decode cX2_order 18 = .ok (.if_icmp .ge 55, 3) := by decide +kernel
theorem dX2_order_21 : decode cX2_order 21 = .ok (.aload_n 0, 1) := by decide +kernel
theorem dX2_order_22 : decode cX2_order 22 = .ok (.iload_n 1, 1) := by decide +kernel
theorem dX2_order_23 : decode cX2_order 23 = .ok (.invokevirtual 159, 3) := by decide +kernel
theorem dX2_order_26 : decode cX2_order 26 = .ok (.istore 4, 2) := by decide +kernel
theorem dX2_order_28 : decode cX2_order 28 = .ok (.iload 4, 2) := by decide +kernel
theorem dX2_order_30 : decode cX2_order 30 = .ok (.iconst (-1), 1) := by decide +kernel
theorem dX2_order_31 : decode cX2_order 31 = .ok (.if_icmp .eq 8, 3) := by decide +kernel
theorem dX2_order_34 : decode cX2_order 34 = .ok (.iload_n 3, 1) := by decide +kernel
theorem dX2_order_35 : decode cX2_order 35 = .ok (.iload_n 2, 1) := by decide +kernel
theorem dX2_order_36 : decode cX2_order 36 = .ok (.if_icmp .ne 6, 3) := by decide +kernel
theorem dX2_order_39 : decode cX2_order 39 = .ok (.iload 4, 2) := by decide +kernel
theorem dX2_order_41 : decode cX2_order 41 = .ok (.ireturn, 1) := by decide +kernel
theorem dX2_order_42 : decode cX2_order 42 = .ok (.aload_n 0, 1) := by decide +kernel
theorem dX2_order_43 : decode cX2_order 43 = .ok (.iload 4, 2) := by decide +kernel
theorem dX2_order_45 : decode cX2_order 45 = .ok (.invokevirtual 86, 3) := by decide +kernel
theorem dX2_order_48 : decode cX2_order 48 = .ok (.astore 5, 2) := by decide +kernel
theorem dX2_order_50 : decode cX2_order 50 = .ok (.aload 5, 2) := by decide +kernel
theorem dX2_order_52 : decode cX2_order 52 = .ok (.aload 5, 2) := by decide +kernel
theorem dX2_order_54 : decode cX2_order 54 = .ok (.aload 5, 2) := by decide +kernel
theorem dX2_order_56 : decode cX2_order 56 = .ok (.getfield 162, 3) := by decide +kernel
theorem dX2_order_59 : decode cX2_order 59 = .ok (.iconst 1, 1) := by decide +kernel
theorem dX2_order_60 : decode cX2_order 60 = .ok (.iadd, 1) := by decide +kernel
theorem dX2_order_61 : decode cX2_order 61 = .ok (.invokevirtual 120, 3) := by decide +kernel
theorem dX2_order_64 : decode cX2_order 64 = .ok (.putfield 162, 3) := by decide +kernel
theorem dX2_order_67 : decode cX2_order 67 = .ok (.iinc 3 1, 3) := by decide +kernel
theorem dX2_order_70 : decode cX2_order 70 = .ok (.goto (-56), 3) := by decide +kernel
theorem dX2_order_73 : decode cX2_order 73 = .ok (.iconst (-1), 1) := by decide +kernel
theorem dX2_order_74 : decode cX2_order 74 = .ok (.ireturn, 1) := by decide +kernel
theorem dX2_isCovered_0 : decode cX2_isCovered 0 = .ok (.aload_n 0, 1) := by decide +kernel
theorem dX2_isCovered_1 : decode cX2_isCovered 1 = .ok (.iload_n 1, 1) := by decide +kernel
theorem dX2_isCovered_2 : decode cX2_isCovered 2 = .ok (.invokevirtual 86, 3) := by decide +kernel
theorem dX2_isCovered_5 : decode cX2_isCovered 5 = .ok (.astore_n 3, 1) := by decide +kernel
theorem dX2_isCovered_6 : decode cX2_isCovered 6 = .ok (.iload_n 2, 1) := by decide +kernel
theorem dX2_isCovered_7 : decode cX2_isCovered 7 = .ok (.invokestatic 31, 3) := by decide +kernel
theorem dX2_isCovered_10 : decode cX2_isCovered 10 = .ok (.aload_n 3, 1) := by decide +kernel
theorem dX2_isCovered_11 : decode cX2_isCovered 11 = .ok (.invokevirtual 165, 3) := by decide +kernel
theorem dX2_isCovered_14 : decode cX2_isCovered 14 = .ok (.ifCond .eq 23, 3) := by decide +kernel
theorem dX2_isCovered_17 : decode cX2_isCovered 17 = .ok (.iload_n 2, 1) := by decide +kernel
theorem dX2_isCovered_18 : decode cX2_isCovered 18 = .ok (.aload_n 3, 1) := by decide +kernel
theorem dX2_isCovered_19 : decode cX2_isCovered 19 = .ok (.getfield 150, 3) := by decide +kernel
theorem dX2_isCovered_22 : decode cX2_isCovered 22 = .ok (.if_icmp .lt 15, 3) := by decide +kernel
theorem dX2_isCovered_25 : decode cX2_isCovered 25 = .ok (.iload_n 2, 1) := by decide +kernel
theorem dX2_isCovered_26 : decode cX2_isCovered 26 = .ok (.aload_n 3, 1) := by decide +kernel
theorem dX2_isCovered_27 : decode cX2_isCovered 27 = .ok (.invokevirtual 169, 3) := by decide +kernel
theorem dX2_isCovered_30 : decode cX2_isCovered 30 = .ok (.if_icmp .gt 7, 3) := by decide +kernel
theorem dX2_isCovered_33 : decode cX2_isCovered 33 = .ok (.iconst 1, 1) := by decide +kernel
theorem dX2_isCovered_34 : decode cX2_isCovered 34 = .ok (.goto 4, 3) := by decide +kernel
theorem dX2_isCovered_37 : decode cX2_isCovered 37 = .ok (.iconst 0, 1) := by decide +kernel
theorem dX2_isCovered_38 : decode cX2_isCovered 38 = .ok (.ireturn, 1) := by decide +kernel
theorem dX2_lasts_0 : decode cX2_lasts 0 = .ok (.aload_n 0, 1) := by decide +kernel
theorem dX2_lasts_1 : decode cX2_lasts 1 = .ok (.iload_n 1, 1) := by decide +kernel
theorem dX2_lasts_2 : decode cX2_lasts 2 = .ok (.invokevirtual 86, 3) := by decide +kernel
theorem dX2_lasts_5 : decode cX2_lasts 5 = .ok (.astore_n 2, 1) := by decide +kernel
theorem dX2_lasts_6 : decode cX2_lasts 6 = .ok (.aload_n 2, 1) := by decide +kernel
theorem dX2_lasts_7 : decode cX2_lasts 7 = .ok (.invokevirtual 165, 3) := by decide +kernel
theorem dX2_lasts_10 : decode cX2_lasts 10 = .ok (.ifCond .ne 13, 3) := by decide +kernel
theorem dX2_lasts_13 : decode cX2_lasts 13 = .ok (.new 133, 3) := by decide +kernel
theorem dX2_lasts_16 : decode cX2_lasts 16 = .ok (.dup, 1) := by decide +kernel
theorem dX2_lasts_17 : decode cX2_lasts 17 = .ok (.ldc 172, 2) := by decide +kernel
theorem dX2_lasts_19 : decode cX2_lasts 19 = .ok (.invokespecial 137, 3) := by decide +kernel
theorem dX2_lasts_22 : decode cX2_lasts 22 = .ok (.athrow, 1) := by decide +kernel
theorem dX2_lasts_23 : decode cX2_lasts 23 = .ok (.aload_n 2, 1) := by decide +kernel
theorem dX2_lasts_24 : decode cX2_lasts 24 = .ok (.invokevirtual 169, 3) := by decide +kernel
theorem dX2_lasts_27 : decode cX2_lasts 27 = .ok (.aload_n 0, 1) := by decide +kernel
theorem dX2_lasts_28 : decode cX2_lasts 28 = .ok (.getfield 23, 3) := by decide +kernel
theorem dX2_lasts_31 : decode cX2_lasts 31 = .ok (.isub, 1) := by decide +kernel
theorem dX2_lasts_32 : decode cX2_lasts 32 = .ok (.ireturn, 1) := by decide +kernel
theorem dX2_isDay_0 : decode cX2_isDay 0 = .ok (.iload_n 0, 1) := by decide +kernel
theorem dX2_isDay_1 : decode cX2_isDay 1 = .ok (.ifCond .lt 14, 3) := by decide +kernel
theorem dX2_isDay_4 : decode cX2_isDay 4 = .ok (.iload_n 0, 1) := by decide +kernel
theorem dX2_isDay_5 : decode cX2_isDay 5 = .ok (.sipush 720, 3) := by decide +kernel
theorem dX2_isDay_8 : decode cX2_isDay 8 = .ok (.if_icmp .ge 7, 3) := by decide +kernel
theorem dX2_isDay_11 : decode cX2_isDay 11 = .ok (.iconst 1, 1) := by decide +kernel
theorem dX2_isDay_12 : decode cX2_isDay 12 = .ok (.goto 4, 3) := by decide +kernel
theorem dX2_isDay_15 : decode cX2_isDay 15 = .ok (.iconst 0, 1) := by decide +kernel
theorem dX2_isDay_16 : decode cX2_isDay 16 = .ok (.ireturn, 1) := by decide +kernel
theorem dX2_checkDay_0 : decode cX2_checkDay 0 = .ok (.iload_n 0, 1) := by decide +kernel
theorem dX2_checkDay_1 : decode cX2_checkDay 1 = .ok (.invokestatic 181, 3) := by decide +kernel
theorem dX2_checkDay_4 : decode cX2_checkDay 4 = .ok (.ifCond .ne 13, 3) := by decide +kernel
theorem dX2_checkDay_7 : decode cX2_checkDay 7 = .ok (.new 184, 3) := by decide +kernel
theorem dX2_checkDay_10 : decode cX2_checkDay 10 = .ok (.dup, 1) := by decide +kernel
theorem dX2_checkDay_11 : decode cX2_checkDay 11 = .ok (.ldc 186, 2) := by decide +kernel
theorem dX2_checkDay_13 : decode cX2_checkDay 13 = .ok (.invokespecial 188, 3) := by decide +kernel
theorem dX2_checkDay_16 : decode cX2_checkDay 16 = .ok (.athrow, 1) := by decide +kernel
theorem dX2_checkDay_17 : decode cX2_checkDay 17 = .ok (.return_, 1) := by decide +kernel
theorem dX2_checkPlace_0 : decode cX2_checkPlace 0 = .ok (.iload_n 0, 1) := by decide +kernel
theorem dX2_checkPlace_1 : decode cX2_checkPlace 1 = .ok (.ifCond .ge 13, 3) := by decide +kernel
theorem dX2_checkPlace_4 : decode cX2_checkPlace 4 = .ok (.new 184, 3) := by decide +kernel
theorem dX2_checkPlace_7 : decode cX2_checkPlace 7 = .ok (.dup, 1) := by decide +kernel
theorem dX2_checkPlace_8 : decode cX2_checkPlace 8 = .ok (.ldc 194, 2) := by decide +kernel
theorem dX2_checkPlace_10 : decode cX2_checkPlace 10 = .ok (.invokespecial 188, 3) := by decide +kernel
theorem dX2_checkPlace_13 : decode cX2_checkPlace 13 = .ok (.athrow, 1) := by decide +kernel
theorem dX2_checkPlace_14 : decode cX2_checkPlace 14 = .ok (.return_, 1) := by decide +kernel
theorem dX2_checkRange_0 : decode cX2_checkRange 0 = .ok (.iload_n 0, 1) := by decide +kernel
theorem dX2_checkRange_1 : decode cX2_checkRange 1 = .ok (.iload_n 1, 1) := by decide +kernel
theorem dX2_checkRange_2 : decode cX2_checkRange 2 = .ok (.if_icmp .lt 8, 3) := by decide +kernel
theorem dX2_checkRange_5 : decode cX2_checkRange 5 = .ok (.iload_n 0, 1) := by decide +kernel
theorem dX2_checkRange_6 : decode cX2_checkRange 6 = .ok (.iload_n 2, 1) := by decide +kernel
theorem dX2_checkRange_7 : decode cX2_checkRange 7 = .ok (.if_icmp .le 13, 3) := by decide +kernel
theorem dX2_checkRange_10 : decode cX2_checkRange 10 = .ok (.new 189, 3) := by decide +kernel
theorem dX2_checkRange_13 : decode cX2_checkRange 13 = .ok (.dup, 1) := by decide +kernel
theorem dX2_checkRange_14 : decode cX2_checkRange 14 = .ok (.ldc 196, 2) := by decide +kernel
theorem dX2_checkRange_16 : decode cX2_checkRange 16 = .ok (.invokespecial 193, 3) := by decide +kernel
theorem dX2_checkRange_19 : decode cX2_checkRange 19 = .ok (.athrow, 1) := by decide +kernel
theorem dX2_checkRange_20 : decode cX2_checkRange 20 = .ok (.return_, 1) := by decide +kernel
theorem dX2_checkKind_0 : decode cX2_checkKind 0 = .ok (.iload_n 0, 1) := by decide +kernel
theorem dX2_checkKind_1 : decode cX2_checkKind 1 = .ok (.iconst 0, 1) := by decide +kernel
theorem dX2_checkKind_2 : decode cX2_checkKind 2 = .ok (.iconst 3, 1) := by decide +kernel
theorem dX2_checkKind_3 : decode cX2_checkKind 3 = .ok (.invokestatic 60, 3) := by decide +kernel
theorem dX2_checkKind_6 : decode cX2_checkKind 6 = .ok (.iload_n 0, 1) := by decide +kernel
theorem dX2_checkKind_7 : decode cX2_checkKind 7 = .ok (.ifCond .ne 13, 3) := by decide +kernel
theorem dX2_checkKind_10 : decode cX2_checkKind 10 = .ok (.iload_n 1, 1) := by decide +kernel
theorem dX2_checkKind_11 : decode cX2_checkKind 11 = .ok (.iconst 1, 1) := by decide +kernel
theorem dX2_checkKind_12 : decode cX2_checkKind 12 = .ok (.bipush 60, 2) := by decide +kernel
theorem dX2_checkKind_14 : decode cX2_checkKind 14 = .ok (.invokestatic 60, 3) := by decide +kernel
theorem dX2_checkKind_17 : decode cX2_checkKind 17 = .ok (.goto 25, 3) := by decide +kernel
theorem dX2_checkKind_20 : decode cX2_checkKind 20 = .ok (.iload_n 0, 1) := by decide +kernel
theorem dX2_checkKind_21 : decode cX2_checkKind 21 = .ok (.iconst 1, 1) := by decide +kernel
theorem dX2_checkKind_22 : decode cX2_checkKind 22 = .ok (.if_icmp .ne 13, 3) := by decide +kernel
theorem dX2_checkKind_25 : decode cX2_checkKind 25 = .ok (.iload_n 1, 1) := by decide +kernel
theorem dX2_checkKind_26 : decode cX2_checkKind 26 = .ok (.iconst 0, 1) := by decide +kernel
theorem dX2_checkKind_27 : decode cX2_checkKind 27 = .ok (.bipush 29, 2) := by decide +kernel
theorem dX2_checkKind_29 : decode cX2_checkKind 29 = .ok (.invokestatic 60, 3) := by decide +kernel
theorem dX2_checkKind_32 : decode cX2_checkKind 32 = .ok (.goto 10, 3) := by decide +kernel
theorem dX2_checkKind_35 : decode cX2_checkKind 35 = .ok (.iload_n 1, 1) := by decide +kernel
theorem dX2_checkKind_36 : decode cX2_checkKind 36 = .ok (.iconst 1, 1) := by decide +kernel
theorem dX2_checkKind_37 : decode cX2_checkKind 37 = .ok (.bipush 22, 2) := by decide +kernel
theorem dX2_checkKind_39 : decode cX2_checkKind 39 = .ok (.invokestatic 60, 3) := by decide +kernel
theorem dX2_checkKind_42 : decode cX2_checkKind 42 = .ok (.return_, 1) := by decide +kernel
theorem dX2_checkShift_0 : decode cX2_checkShift 0 = .ok (.iload_n 0, 1) := by decide +kernel
theorem dX2_checkShift_1 : decode cX2_checkShift 1 = .ok (.iconst 0, 1) := by decide +kernel
theorem dX2_checkShift_2 : decode cX2_checkShift 2 = .ok (.iconst 2, 1) := by decide +kernel
theorem dX2_checkShift_3 : decode cX2_checkShift 3 = .ok (.invokestatic 60, 3) := by decide +kernel
theorem dX2_checkShift_6 : decode cX2_checkShift 6 = .ok (.return_, 1) := by decide +kernel
theorem dX2_ruleAt_0 : decode cX2_ruleAt 0 = .ok (.iload_n 1, 1) := by decide +kernel
theorem dX2_ruleAt_1 : decode cX2_ruleAt 1 = .ok (.ifCond .lt 14, 3) := by decide +kernel
theorem dX2_ruleAt_4 : decode cX2_ruleAt 4 = .ok (.iload_n 1, 1) := by decide +kernel
theorem dX2_ruleAt_5 : decode cX2_ruleAt 5 = .ok (.aload_n 0, 1) := by decide +kernel
theorem dX2_ruleAt_6 : decode cX2_ruleAt 6 = .ok (.getfield 19, 3) := by decide +kernel
theorem dX2_ruleAt_9 : decode cX2_ruleAt 9 = .ok (.invokevirtual 39, 3) := by decide +kernel
theorem dX2_ruleAt_12 : decode cX2_ruleAt 12 = .ok (.if_icmp .lt 13, 3) := by decide +kernel
theorem dX2_ruleAt_15 : decode cX2_ruleAt 15 = .ok (.new 184, 3) := by decide +kernel
theorem dX2_ruleAt_18 : decode cX2_ruleAt 18 = .ok (.dup, 1) := by decide +kernel
theorem dX2_ruleAt_19 : decode cX2_ruleAt 19 = .ok (.ldc 198, 2) := by decide +kernel
theorem dX2_ruleAt_21 : decode cX2_ruleAt 21 = .ok (.invokespecial 188, 3) := by decide +kernel
theorem dX2_ruleAt_24 : decode cX2_ruleAt 24 = .ok (.athrow, 1) := by decide +kernel
theorem dX2_ruleAt_25 : decode cX2_ruleAt 25 = .ok (.aload_n 0, 1) := by decide +kernel
theorem dX2_ruleAt_26 : decode cX2_ruleAt 26 = .ok (.getfield 19, 3) := by decide +kernel
theorem dX2_ruleAt_29 : decode cX2_ruleAt 29 = .ok (.iload_n 1, 1) := by decide +kernel
theorem dX2_ruleAt_30 : decode cX2_ruleAt 30 = .ok (.invokevirtual 43, 3) := by decide +kernel
theorem dX2_ruleAt_33 : decode cX2_ruleAt 33 = .ok (.checkcast 47, 3) := by decide +kernel
theorem dX2_ruleAt_36 : decode cX2_ruleAt 36 = .ok (.areturn, 1) := by decide +kernel
theorem dX2_spreadNeeds_0 : decode cX2_spreadNeeds 0 = .ok (.iconst 0, 1) := by decide +kernel
theorem dX2_spreadNeeds_1 : decode cX2_spreadNeeds 1 = .ok (.istore_n 3, 1) := by decide +kernel
theorem dX2_spreadNeeds_2 : decode cX2_spreadNeeds 2 = .ok (.iload_n 3, 1) := by decide +kernel
theorem dX2_spreadNeeds_3 : decode cX2_spreadNeeds 3 = .ok (.aload_n 0, 1) := by decide +kernel
theorem dX2_spreadNeeds_4 : decode cX2_spreadNeeds 4 = .ok (.getfield 19, 3) := by decide +kernel
theorem dX2_spreadNeeds_7 : decode cX2_spreadNeeds 7 = .ok (.invokevirtual 39, 3) := by decide +kernel
theorem dX2_spreadNeeds_10 : decode cX2_spreadNeeds 10 = .ok (.if_icmp .ge 47, 3) := by decide +kernel
theorem dX2_spreadNeeds_13 : decode cX2_spreadNeeds 13 = .ok (.aload_n 0, 1) := by decide +kernel
theorem dX2_spreadNeeds_14 : decode cX2_spreadNeeds 14 = .ok (.getfield 19, 3) := by decide +kernel
theorem dX2_spreadNeeds_17 : decode cX2_spreadNeeds 17 = .ok (.iload_n 3, 1) := by decide +kernel
theorem dX2_spreadNeeds_18 : decode cX2_spreadNeeds 18 = .ok (.invokevirtual 43, 3) := by decide +kernel
theorem dX2_spreadNeeds_21 : decode cX2_spreadNeeds 21 = .ok (.checkcast 47, 3) := by decide +kernel
theorem dX2_spreadNeeds_24 : decode cX2_spreadNeeds 24 = .ok (.astore 4, 2) := by decide +kernel
theorem dX2_spreadNeeds_26 : decode cX2_spreadNeeds 26 = .ok (.iload_n 3, 1) := by decide +kernel
theorem dX2_spreadNeeds_27 : decode cX2_spreadNeeds 27 = .ok (.iload_n 1, 1) := by decide +kernel
theorem dX2_spreadNeeds_28 : decode cX2_spreadNeeds 28 = .ok (.if_icmp .eq 12, 3) := by decide +kernel
theorem dX2_spreadNeeds_31 : decode cX2_spreadNeeds 31 = .ok (.aload 4, 2) := by decide +kernel
theorem dX2_spreadNeeds_33 : decode cX2_spreadNeeds 33 = .ok (.iload_n 1, 1) := by decide +kernel
theorem dX2_spreadNeeds_34 : decode cX2_spreadNeeds 34 = .ok (.invokevirtual 93, 3) := by decide +kernel
theorem dX2_spreadNeeds_37 : decode cX2_spreadNeeds 37 = .ok (.ifCond .eq 14, 3) := by decide +kernel
theorem dX2_spreadNeeds_40 : decode cX2_spreadNeeds 40 = .ok (.aload 4, 2) := by decide +kernel
theorem dX2_spreadNeeds_42 : decode cX2_spreadNeeds 42 = .ok (.dup, 1) := by decide +kernel
theorem dX2_spreadNeeds_43 : decode cX2_spreadNeeds 43 = .ok (.getfield 104, 3) := by decide +kernel
theorem dX2_spreadNeeds_46 : decode cX2_spreadNeeds 46 = .ok (.iload_n 2, 1) := by decide +kernel
theorem dX2_spreadNeeds_47 : decode cX2_spreadNeeds 47 = .ok (.ior, 1) := by decide +kernel
theorem dX2_spreadNeeds_48 : decode cX2_spreadNeeds 48 = .ok (.putfield 104, 3) := by decide +kernel
theorem dX2_spreadNeeds_51 : decode cX2_spreadNeeds 51 = .ok (.iinc 3 1, 3) := by decide +kernel
theorem dX2_spreadNeeds_54 : decode cX2_spreadNeeds 54 = .ok (.goto (-52), 3) := by decide +kernel
theorem dX2_spreadNeeds_57 : decode cX2_spreadNeeds 57 = .ok (.return_, 1) := by decide +kernel
theorem dX2_foreseeOpenDuties_0 : decode cX2_foreseeOpenDuties 0 = .ok (.iconst 0, 1) := by decide +kernel
theorem dX2_foreseeOpenDuties_1 : decode cX2_foreseeOpenDuties 1 = .ok (.istore_n 1, 1) := by decide +kernel
theorem dX2_foreseeOpenDuties_2 : decode cX2_foreseeOpenDuties 2 = .ok (.iload_n 1, 1) := by decide +kernel
theorem dX2_foreseeOpenDuties_3 : decode cX2_foreseeOpenDuties 3 = .ok (.aload_n 0, 1) := by decide +kernel
theorem dX2_foreseeOpenDuties_4 : decode cX2_foreseeOpenDuties 4 = .ok (.getfield 19, 3) := by decide +kernel
theorem dX2_foreseeOpenDuties_7 : decode cX2_foreseeOpenDuties 7 = .ok (.invokevirtual 39, 3) := by decide +kernel
theorem dX2_foreseeOpenDuties_10 : decode cX2_foreseeOpenDuties 10 = .ok (.if_icmp .ge 29, 3) := by decide +kernel
theorem dX2_foreseeOpenDuties_13 : decode cX2_foreseeOpenDuties 13 = .ok (.aload_n 0, 1) := by decide +kernel
theorem dX2_foreseeOpenDuties_14 : decode cX2_foreseeOpenDuties 14 = .ok (.getfield 19, 3) := by decide +kernel
theorem dX2_foreseeOpenDuties_17 : decode cX2_foreseeOpenDuties 17 = .ok (.iload_n 1, 1) := by decide +kernel
theorem dX2_foreseeOpenDuties_18 : decode cX2_foreseeOpenDuties 18 = .ok (.invokevirtual 43, 3) := by decide +kernel
theorem dX2_foreseeOpenDuties_21 : decode cX2_foreseeOpenDuties 21 = .ok (.checkcast 47, 3) := by decide +kernel
theorem dX2_foreseeOpenDuties_24 : decode cX2_foreseeOpenDuties 24 = .ok (.astore_n 2, 1) := by decide +kernel
theorem dX2_foreseeOpenDuties_25 : decode cX2_foreseeOpenDuties 25 = .ok (.aload_n 2, 1) := by decide +kernel
theorem dX2_foreseeOpenDuties_26 : decode cX2_foreseeOpenDuties 26 = .ok (.aload_n 2, 1) := by decide +kernel
theorem dX2_foreseeOpenDuties_27 : decode cX2_foreseeOpenDuties 27 = .ok (.invokevirtual 130, 3) := by decide +kernel
theorem dX2_foreseeOpenDuties_30 : decode cX2_foreseeOpenDuties 30 = .ok (.putfield 162, 3) := by decide +kernel
theorem dX2_foreseeOpenDuties_33 : decode cX2_foreseeOpenDuties 33 = .ok (.iinc 1 1, 3) := by decide +kernel
theorem dX2_foreseeOpenDuties_36 : decode cX2_foreseeOpenDuties 36 = .ok (.goto (-34), 3) := by decide +kernel
theorem dX2_foreseeOpenDuties_39 : decode cX2_foreseeOpenDuties 39 = .ok (.return_, 1) := by decide +kernel
theorem dX2_leastBlocker_0 : decode cX2_leastBlocker 0 = .ok (.iconst 0, 1) := by decide +kernel
theorem dX2_leastBlocker_1 : decode cX2_leastBlocker 1 = .ok (.istore_n 2, 1) := by decide +kernel
theorem dX2_leastBlocker_2 : decode cX2_leastBlocker 2 = .ok (.iload_n 2, 1) := by decide +kernel
theorem dX2_leastBlocker_3 : decode cX2_leastBlocker 3 = .ok (.aload_n 0, 1) := by decide +kernel
theorem dX2_leastBlocker_4 : decode cX2_leastBlocker 4 = .ok (.getfield 19, 3) := by decide +kernel
theorem dX2_leastBlocker_7 : decode cX2_leastBlocker 7 = .ok (.invokevirtual 39, 3) := by decide +kernel
theorem dX2_leastBlocker_10 : decode cX2_leastBlocker 10 = .ok (.if_icmp .ge 62, 3) := by decide +kernel
theorem dX2_leastBlocker_13 : decode cX2_leastBlocker 13 = .ok (.aload_n 0, 1) := by decide +kernel
theorem dX2_leastBlocker_14 : decode cX2_leastBlocker 14 = .ok (.getfield 19, 3) := by decide +kernel
theorem dX2_leastBlocker_17 : decode cX2_leastBlocker 17 = .ok (.iload_n 2, 1) := by decide +kernel
theorem dX2_leastBlocker_18 : decode cX2_leastBlocker 18 = .ok (.invokevirtual 43, 3) := by decide +kernel
theorem dX2_leastBlocker_21 : decode cX2_leastBlocker 21 = .ok (.checkcast 47, 3) := by decide +kernel
theorem dX2_leastBlocker_24 : decode cX2_leastBlocker 24 = .ok (.astore_n 3, 1) := by decide +kernel
theorem dX2_leastBlocker_25 : decode cX2_leastBlocker 25 = .ok (.aload_n 3, 1) := by decide +kernel
theorem dX2_leastBlocker_26 : decode cX2_leastBlocker 26 = .ok (.getfield 162, 3) := by decide +kernel
theorem dX2_leastBlocker_29 : decode cX2_leastBlocker 29 = .ok (.iconst (-1), 1) := by decide +kernel
theorem dX2_leastBlocker_30 : decode cX2_leastBlocker 30 = .ok (.if_icmp .eq 7, 3) := by decide +kernel
theorem dX2_leastBlocker_33 : decode cX2_leastBlocker 33 = .ok (.iconst 1, 1) := by decide +kernel
theorem dX2_leastBlocker_34 : decode cX2_leastBlocker 34 = .ok (.goto 4, 3) := by decide +kernel
theorem dX2_leastBlocker_37 : decode cX2_leastBlocker 37 = .ok (.iconst 0, 1) := by decide +kernel
theorem dX2_leastBlocker_38 : decode cX2_leastBlocker 38 = .ok (.istore 4, 2) := by decide +kernel
theorem dX2_leastBlocker_40 : decode cX2_leastBlocker 40 = .ok (.aload_n 1, 1) := by decide +kernel
theorem dX2_leastBlocker_41 : decode cX2_leastBlocker 41 = .ok (.iload_n 2, 1) := by decide +kernel
theorem dX2_leastBlocker_42 : decode cX2_leastBlocker 42 = .ok (.invokevirtual 98, 3) := by decide +kernel
theorem dX2_leastBlocker_45 : decode cX2_leastBlocker 45 = .ok (.ifCond .eq 21, 3) := by decide +kernel
theorem dX2_leastBlocker_48 : decode cX2_leastBlocker 48 = .ok (.iload 4, 2) := by decide +kernel
theorem dX2_leastBlocker_50 : decode cX2_leastBlocker 50 = .ok (.ifCond .eq 16, 3) := by decide +kernel
theorem dX2_leastBlocker_53 : decode cX2_leastBlocker 53 = .ok (.aload_n 3, 1) := by decide +kernel
theorem dX2_leastBlocker_54 : decode cX2_leastBlocker 54 = .ok (.getfield 162, 3) := by decide +kernel
theorem dX2_leastBlocker_57 : decode cX2_leastBlocker 57 = .ok (.aload_n 1, 1) := by decide +kernel
theorem dX2_leastBlocker_58 : decode cX2_leastBlocker 58 = .ok (.getfield 162, 3) := by decide +kernel
theorem dX2_leastBlocker_61 : decode cX2_leastBlocker 61 = .ok (.if_icmp .gt 5, 3) := by decide +kernel
theorem dX2_leastBlocker_64 : decode cX2_leastBlocker 64 = .ok (.iload_n 2, 1) := by decide +kernel
theorem dX2_leastBlocker_65 : decode cX2_leastBlocker 65 = .ok (.ireturn, 1) := by decide +kernel
theorem dX2_leastBlocker_66 : decode cX2_leastBlocker 66 = .ok (.iinc 2 1, 3) := by decide +kernel
theorem dX2_leastBlocker_69 : decode cX2_leastBlocker 69 = .ok (.goto (-67), 3) := by decide +kernel
theorem dX2_leastBlocker_72 : decode cX2_leastBlocker 72 = .ok (.iconst (-1), 1) := by decide +kernel
theorem dX2_leastBlocker_73 : decode cX2_leastBlocker 73 = .ok (.ireturn, 1) := by decide +kernel
theorem dX2_nextInOrder_0 : decode cX2_nextInOrder 0 = .ok (.iconst (-1), 1) := by decide +kernel
theorem dX2_nextInOrder_1 : decode cX2_nextInOrder 1 = .ok (.istore_n 2, 1) := by decide +kernel
theorem dX2_nextInOrder_2 : decode cX2_nextInOrder 2 = .ok (.iload_n 1, 1) := by decide +kernel
theorem dX2_nextInOrder_3 : decode cX2_nextInOrder 3 = .ok (.iconst 1, 1) := by decide +kernel
theorem dX2_nextInOrder_4 : decode cX2_nextInOrder 4 = .ok (.iadd, 1) := by decide +kernel
theorem dX2_nextInOrder_5 : decode cX2_nextInOrder 5 = .ok (.istore_n 3, 1) := by decide +kernel
theorem dX2_nextInOrder_6 : decode cX2_nextInOrder 6 = .ok (.iconst 0, 1) := by decide +kernel
theorem dX2_nextInOrder_7 : decode cX2_nextInOrder 7 = .ok (.istore 4, 2) := by decide +kernel
theorem dX2_nextInOrder_9 : decode cX2_nextInOrder 9 = .ok (.iload 4, 2) := by decide +kernel
theorem dX2_nextInOrder_11 : decode cX2_nextInOrder 11 = .ok (.aload_n 0, 1) := by decide +kernel
theorem dX2_nextInOrder_12 : decode cX2_nextInOrder 12 = .ok (.getfield 19, 3) := by decide +kernel
theorem dX2_nextInOrder_15 : decode cX2_nextInOrder 15 = .ok (.invokevirtual 39, 3) := by decide +kernel
theorem dX2_nextInOrder_18 : decode cX2_nextInOrder 18 = .ok (.if_icmp .ge 72, 3) := by decide +kernel
theorem dX2_nextInOrder_21 : decode cX2_nextInOrder 21 = .ok (.aload_n 0, 1) := by decide +kernel
theorem dX2_nextInOrder_22 : decode cX2_nextInOrder 22 = .ok (.getfield 19, 3) := by decide +kernel
theorem dX2_nextInOrder_25 : decode cX2_nextInOrder 25 = .ok (.iload 4, 2) := by decide +kernel
theorem dX2_nextInOrder_27 : decode cX2_nextInOrder 27 = .ok (.invokevirtual 43, 3) := by decide +kernel
theorem dX2_nextInOrder_30 : decode cX2_nextInOrder 30 = .ok (.checkcast 47, 3) := by decide +kernel
theorem dX2_nextInOrder_33 : decode cX2_nextInOrder 33 = .ok (.astore 5, 2) := by decide +kernel
theorem dX2_nextInOrder_35 : decode cX2_nextInOrder 35 = .ok (.aload 5, 2) := by decide +kernel
theorem dX2_nextInOrder_37 : decode cX2_nextInOrder 37 = .ok (.getfield 162, 3) := by decide +kernel
theorem dX2_nextInOrder_40 : decode cX2_nextInOrder 40 = .ok (.iconst (-1), 1) := by decide +kernel
theorem dX2_nextInOrder_41 : decode cX2_nextInOrder 41 = .ok (.if_icmp .eq 7, 3) := by decide +kernel
theorem dX2_nextInOrder_44 : decode cX2_nextInOrder 44 = .ok (.iconst 1, 1) := by decide +kernel
theorem dX2_nextInOrder_45 : decode cX2_nextInOrder 45 = .ok (.goto 4, 3) := by decide +kernel
theorem dX2_nextInOrder_48 : decode cX2_nextInOrder 48 = .ok (.iconst 0, 1) := by decide +kernel
theorem dX2_nextInOrder_49 : decode cX2_nextInOrder 49 = .ok (.istore 6, 2) := by decide +kernel
theorem dX2_nextInOrder_51 : decode cX2_nextInOrder 51 = .ok (.iload 6, 2) := by decide +kernel
theorem dX2_nextInOrder_53 : decode cX2_nextInOrder 53 = .ok (.ifCond .eq 31, 3) := by decide +kernel
theorem dX2_nextInOrder_56 : decode cX2_nextInOrder 56 = .ok (.aload 5, 2) := by decide +kernel
theorem dX2_nextInOrder_58 : decode cX2_nextInOrder 58 = .ok (.getfield 162, 3) := by decide +kernel
theorem dX2_nextInOrder_61 : decode cX2_nextInOrder 61 = .ok (.iload_n 3, 1) := by decide +kernel
theorem dX2_nextInOrder_62 : decode cX2_nextInOrder 62 = .ok (.if_icmp .ge 22, 3) := by decide +kernel
theorem dX2_nextInOrder_65 : decode cX2_nextInOrder 65 = .ok (.aload_n 0, 1) := by decide +kernel
theorem dX2_nextInOrder_66 : decode cX2_nextInOrder 66 = .ok (.aload 5, 2) := by decide +kernel
theorem dX2_nextInOrder_68 : decode cX2_nextInOrder 68 = .ok (.invokevirtual 141, 3) := by decide +kernel
theorem dX2_nextInOrder_71 : decode cX2_nextInOrder 71 = .ok (.iconst (-1), 1) := by decide +kernel
theorem dX2_nextInOrder_72 : decode cX2_nextInOrder 72 = .ok (.if_icmp .ne 12, 3) := by decide +kernel
theorem dX2_nextInOrder_75 : decode cX2_nextInOrder 75 = .ok (.iload 4, 2) := by decide +kernel
theorem dX2_nextInOrder_77 : decode cX2_nextInOrder 77 = .ok (.istore_n 2, 1) := by decide +kernel
theorem dX2_nextInOrder_78 : decode cX2_nextInOrder 78 = .ok (.aload 5, 2) := by decide +kernel
theorem dX2_nextInOrder_80 : decode cX2_nextInOrder 80 = .ok (.getfield 162, 3) := by decide +kernel
theorem dX2_nextInOrder_83 : decode cX2_nextInOrder 83 = .ok (.istore_n 3, 1) := by decide +kernel
theorem dX2_nextInOrder_84 : decode cX2_nextInOrder 84 = .ok (.iinc 4 1, 3) := by decide +kernel
theorem dX2_nextInOrder_87 : decode cX2_nextInOrder 87 = .ok (.goto (-78), 3) := by decide +kernel
theorem dX2_nextInOrder_90 : decode cX2_nextInOrder 90 = .ok (.iload_n 2, 1) := by decide +kernel
theorem dX2_nextInOrder_91 : decode cX2_nextInOrder 91 = .ok (.ireturn, 1) := by decide +kernel
theorem dJ9_max_7cf53_0 : decode cJ9_max_7cf53 0 = .ok (.iload_n 0, 1) := by decide +kernel
theorem dJ9_max_7cf53_1 : decode cJ9_max_7cf53 1 = .ok (.iload_n 1, 1) := by decide +kernel
theorem dJ9_max_7cf53_2 : decode cJ9_max_7cf53 2 = .ok (.if_icmp .lt 7, 3) := by decide +kernel
theorem dJ9_max_7cf53_5 : decode cJ9_max_7cf53 5 = .ok (.iload_n 0, 1) := by decide +kernel
theorem dJ9_max_7cf53_6 : decode cJ9_max_7cf53 6 = .ok (.goto 4, 3) := by decide +kernel
theorem dJ9_max_7cf53_9 : decode cJ9_max_7cf53 9 = .ok (.iload_n 1, 1) := by decide +kernel
theorem dJ9_max_7cf53_10 : decode cJ9_max_7cf53 10 = .ok (.ireturn, 1) := by decide +kernel
theorem dJ9_min_7cf53_0 : decode cJ9_min_7cf53 0 = .ok (.iload_n 0, 1) := by decide +kernel
theorem dJ9_min_7cf53_1 : decode cJ9_min_7cf53 1 = .ok (.iload_n 1, 1) := by decide +kernel
theorem dJ9_min_7cf53_2 : decode cJ9_min_7cf53 2 = .ok (.if_icmp .gt 7, 3) := by decide +kernel
theorem dJ9_min_7cf53_5 : decode cJ9_min_7cf53 5 = .ok (.iload_n 0, 1) := by decide +kernel
theorem dJ9_min_7cf53_6 : decode cJ9_min_7cf53 6 = .ok (.goto 4, 3) := by decide +kernel
theorem dJ9_min_7cf53_9 : decode cJ9_min_7cf53 9 = .ok (.iload_n 1, 1) := by decide +kernel
theorem dJ9_min_7cf53_10 : decode cJ9_min_7cf53 10 = .ok (.ireturn, 1) := by decide +kernel
theorem dJxa1e45_init_da8c8_0 : decode cJxa1e45_init_da8c8 0 = .ok (.aload_n 0, 1) := by decide +kernel
theorem dJxa1e45_init_da8c8_1 : decode cJxa1e45_init_da8c8 1 = .ok (.invokespecial 1, 3) := by decide +kernel
theorem dJxa1e45_init_da8c8_4 : decode cJxa1e45_init_da8c8 4 = .ok (.return_, 1) := by decide +kernel
theorem dJxc12de_init_da8c8_0 : decode cJxc12de_init_da8c8 0 = .ok (.aload_n 0, 1) := by decide +kernel
theorem dJxc12de_init_da8c8_1 : decode cJxc12de_init_da8c8 1 = .ok (.invokespecial 1, 3) := by decide +kernel
theorem dJxc12de_init_da8c8_4 : decode cJxc12de_init_da8c8 4 = .ok (.aload_n 0, 1) := by decide +kernel
theorem dJxc12de_init_da8c8_5 : decode cJxc12de_init_da8c8 5 = .ok (.iconst 0, 1) := by decide +kernel
theorem dJxc12de_init_da8c8_6 : decode cJxc12de_init_da8c8 6 = .ok (.putfield 7, 3) := by decide +kernel
theorem dJxc12de_init_da8c8_9 : decode cJxc12de_init_da8c8 9 = .ok (.return_, 1) := by decide +kernel
theorem dJx4a65c_init_da8c8_0 : decode cJx4a65c_init_da8c8 0 = .ok (.aload_n 0, 1) := by decide +kernel
theorem dJx4a65c_init_da8c8_1 : decode cJx4a65c_init_da8c8 1 = .ok (.invokespecial 1, 3) := by decide +kernel
theorem dJx4a65c_init_da8c8_4 : decode cJx4a65c_init_da8c8 4 = .ok (.aload_n 0, 1) := by decide +kernel
theorem dJx4a65c_init_da8c8_5 : decode cJx4a65c_init_da8c8 5 = .ok (.getstatic 39, 3) := by decide +kernel
theorem dJx4a65c_init_da8c8_8 : decode cJx4a65c_init_da8c8 8 = .ok (.putfield 9, 3) := by decide +kernel
theorem dJx4a65c_init_da8c8_11 : decode cJx4a65c_init_da8c8 11 = .ok (.return_, 1) := by decide +kernel
theorem dJx4a65c_grow_92f84_0 : decode cJx4a65c_grow_92f84 0 = .ok (.aload_n 0, 1) := by decide +kernel
theorem dJx4a65c_grow_92f84_1 : decode cJx4a65c_grow_92f84 1 = .ok (.getfield 9, 3) := by decide +kernel
theorem dJx4a65c_grow_92f84_4 : decode cJx4a65c_grow_92f84 4 = .ok (.arraylength, 1) := by decide +kernel
theorem dJx4a65c_grow_92f84_5 : decode cJx4a65c_grow_92f84 5 = .ok (.istore_n 2, 1) := by decide +kernel
theorem dJx4a65c_grow_92f84_6 : decode cJx4a65c_grow_92f84 6 = .ok (.iload_n 2, 1) := by decide +kernel
theorem dJx4a65c_grow_92f84_7 : decode cJx4a65c_grow_92f84 7 = .ok (.ifCond .gt 13, 3) := by decide +kernel
theorem dJx4a65c_grow_92f84_10 : decode cJx4a65c_grow_92f84 10 = .ok (.aload_n 0, 1) := by decide +kernel
theorem dJx4a65c_grow_92f84_11 : decode cJx4a65c_grow_92f84 11 = .ok (.getfield 9, 3) := by decide +kernel
theorem dJx4a65c_grow_92f84_14 : decode cJx4a65c_grow_92f84 14 = .ok (.getstatic 39, 3) := by decide +kernel
theorem dJx4a65c_grow_92f84_17 : decode cJx4a65c_grow_92f84 17 = .ok (.if_acmp .eq 28, 3) := by decide +kernel
theorem dJx4a65c_grow_92f84_20 : decode cJx4a65c_grow_92f84 20 = .ok (.iload_n 2, 1) := by decide +kernel
theorem dJx4a65c_grow_92f84_21 : decode cJx4a65c_grow_92f84 21 = .ok (.iload_n 1, 1) := by decide +kernel
theorem dJx4a65c_grow_92f84_22 : decode cJx4a65c_grow_92f84 22 = .ok (.iload_n 2, 1) := by decide +kernel
theorem dJx4a65c_grow_92f84_23 : decode cJx4a65c_grow_92f84 23 = .ok (.isub, 1) := by decide +kernel
theorem dJx4a65c_grow_92f84_24 : decode cJx4a65c_grow_92f84 24 = .ok (.iload_n 2, 1) := by decide +kernel
theorem dJx4a65c_grow_92f84_25 : decode cJx4a65c_grow_92f84 25 = .ok (.iconst 1, 1) := by decide +kernel
theorem dJx4a65c_grow_92f84_26 : decode cJx4a65c_grow_92f84 26 = .ok (.ishr, 1) := by decide +kernel
theorem dJx4a65c_grow_92f84_27 : decode cJx4a65c_grow_92f84 27 = .ok (.invokestatic 73, 3) := by decide +kernel
theorem dJx4a65c_grow_92f84_30 : decode cJx4a65c_grow_92f84 30 = .ok (.istore_n 3, 1) := by decide +kernel
theorem dJx4a65c_grow_92f84_31 : decode cJx4a65c_grow_92f84 31 = .ok (.aload_n 0, 1) := by decide +kernel
theorem dJx4a65c_grow_92f84_32 : decode cJx4a65c_grow_92f84 32 = .ok (.aload_n 0, 1) := by decide +kernel
theorem dJx4a65c_grow_92f84_33 : decode cJx4a65c_grow_92f84 33 = .ok (.getfield 9, 3) := by decide +kernel
theorem dJx4a65c_grow_92f84_36 : decode cJx4a65c_grow_92f84 36 = .ok (.iload_n 3, 1) := by decide +kernel
theorem dJx4a65c_grow_92f84_37 : decode cJx4a65c_grow_92f84 37 = .ok (.invokestatic 66, 3) := by decide +kernel
theorem dJx4a65c_grow_92f84_40 : decode cJx4a65c_grow_92f84 40 = .ok (.dup_x1, 1) := by decide +kernel
theorem dJx4a65c_grow_92f84_41 : decode cJx4a65c_grow_92f84 41 = .ok (.putfield 9, 3) := by decide +kernel
theorem dJx4a65c_grow_92f84_44 : decode cJx4a65c_grow_92f84 44 = .ok (.areturn, 1) := by decide +kernel
theorem dJx4a65c_grow_92f84_45 : decode cJx4a65c_grow_92f84 45 = .ok (.aload_n 0, 1) := by decide +kernel
theorem dJx4a65c_grow_92f84_46 : decode cJx4a65c_grow_92f84 46 = .ok (.bipush 10, 2) := by decide +kernel
theorem dJx4a65c_grow_92f84_48 : decode cJx4a65c_grow_92f84 48 = .ok (.iload_n 1, 1) := by decide +kernel
theorem dJx4a65c_grow_92f84_49 : decode cJx4a65c_grow_92f84 49 = .ok (.invokestatic 79, 3) := by decide +kernel
theorem dJx4a65c_grow_92f84_52 : decode cJx4a65c_grow_92f84 52 = .ok (.anewarray 7, 3) := by decide +kernel
theorem dJx4a65c_grow_92f84_55 : decode cJx4a65c_grow_92f84 55 = .ok (.dup_x1, 1) := by decide +kernel
theorem dJx4a65c_grow_92f84_56 : decode cJx4a65c_grow_92f84 56 = .ok (.putfield 9, 3) := by decide +kernel
theorem dJx4a65c_grow_92f84_59 : decode cJx4a65c_grow_92f84 59 = .ok (.areturn, 1) := by decide +kernel
theorem dJx4a65c_grow_d5877_0 : decode cJx4a65c_grow_d5877 0 = .ok (.aload_n 0, 1) := by decide +kernel
theorem dJx4a65c_grow_d5877_1 : decode cJx4a65c_grow_d5877 1 = .ok (.aload_n 0, 1) := by decide +kernel
theorem dJx4a65c_grow_d5877_2 : decode cJx4a65c_grow_d5877 2 = .ok (.getfield 48, 3) := by decide +kernel
theorem dJx4a65c_grow_d5877_5 : decode cJx4a65c_grow_d5877 5 = .ok (.iconst 1, 1) := by decide +kernel
theorem dJx4a65c_grow_d5877_6 : decode cJx4a65c_grow_d5877 6 = .ok (.iadd, 1) := by decide +kernel
theorem dJx4a65c_grow_d5877_7 : decode cJx4a65c_grow_d5877 7 = .ok (.invokevirtual 69, 3) := by decide +kernel
theorem dJx4a65c_grow_d5877_10 : decode cJx4a65c_grow_d5877 10 = .ok (.areturn, 1) := by decide +kernel
theorem dJx4a65c_size_8abf5_0 : decode cJx4a65c_size_8abf5 0 = .ok (.aload_n 0, 1) := by decide +kernel
theorem dJx4a65c_size_8abf5_1 : decode cJx4a65c_size_8abf5 1 = .ok (.getfield 48, 3) := by decide +kernel
theorem dJx4a65c_size_8abf5_4 : decode cJx4a65c_size_8abf5 4 = .ok (.ireturn, 1) := by decide +kernel
theorem dJx4a65c_elementData_915e3_0 : decode cJx4a65c_elementData_915e3 0 = .ok (.aload_n 0, 1) := by decide +kernel
theorem dJx4a65c_elementData_915e3_1 : decode cJx4a65c_elementData_915e3 1 = .ok (.getfield 9, 3) := by decide +kernel
theorem dJx4a65c_elementData_915e3_4 : decode cJx4a65c_elementData_915e3 4 = .ok (.iload_n 1, 1) := by decide +kernel
theorem dJx4a65c_elementData_915e3_5 : decode cJx4a65c_elementData_915e3 5 = .ok (.aaload, 1) := by decide +kernel
theorem dJx4a65c_elementData_915e3_6 : decode cJx4a65c_elementData_915e3 6 = .ok (.areturn, 1) := by decide +kernel
theorem dJx4a65c_get_915e3_0 : decode cJx4a65c_get_915e3 0 = .ok (.iload_n 1, 1) := by decide +kernel
theorem dJx4a65c_get_915e3_1 : decode cJx4a65c_get_915e3 1 = .ok (.aload_n 0, 1) := by decide +kernel
theorem dJx4a65c_get_915e3_2 : decode cJx4a65c_get_915e3 2 = .ok (.getfield 48, 3) := by decide +kernel
theorem dJx4a65c_get_915e3_5 : decode cJx4a65c_get_915e3 5 = .ok (.invokestatic 118, 3) := by decide +kernel
theorem dJx4a65c_get_915e3_8 : decode cJx4a65c_get_915e3 8 = .ok (.pop, 1) := by decide +kernel
theorem dJx4a65c_get_915e3_9 : decode cJx4a65c_get_915e3 9 = .ok (.aload_n 0, 1) := by decide +kernel
theorem dJx4a65c_get_915e3_10 : decode cJx4a65c_get_915e3 10 = .ok (.iload_n 1, 1) := by decide +kernel
theorem dJx4a65c_get_915e3_11 : decode cJx4a65c_get_915e3 11 = .ok (.invokevirtual 123, 3) := by decide +kernel
theorem dJx4a65c_get_915e3_14 : decode cJx4a65c_get_915e3 14 = .ok (.areturn, 1) := by decide +kernel
theorem dJx4a65c_add_72be8_0 : decode cJx4a65c_add_72be8 0 = .ok (.iload_n 3, 1) := by decide +kernel
theorem dJx4a65c_add_72be8_1 : decode cJx4a65c_add_72be8 1 = .ok (.aload_n 2, 1) := by decide +kernel
theorem dJx4a65c_add_72be8_2 : decode cJx4a65c_add_72be8 2 = .ok (.arraylength, 1) := by decide +kernel
theorem dJx4a65c_add_72be8_3 : decode cJx4a65c_add_72be8 3 = .ok (.if_icmp .ne 8, 3) := by decide +kernel
theorem dJx4a65c_add_72be8_6 : decode cJx4a65c_add_72be8 6 = .ok (.aload_n 0, 1) := by decide +kernel
theorem dJx4a65c_add_72be8_7 : decode cJx4a65c_add_72be8 7 = .ok (.invokevirtual 129, 3) := by decide +kernel
theorem dJx4a65c_add_72be8_10 : decode cJx4a65c_add_72be8 10 = .ok (.astore_n 2, 1) := by decide +kernel
theorem dJx4a65c_add_72be8_11 : decode cJx4a65c_add_72be8 11 = .ok (.aload_n 2, 1) := by decide +kernel
theorem dJx4a65c_add_72be8_12 : decode cJx4a65c_add_72be8 12 = .ok (.iload_n 3, 1) := by decide +kernel
theorem dJx4a65c_add_72be8_13 : decode cJx4a65c_add_72be8 13 = .ok (.aload_n 1, 1) := by decide +kernel
theorem dJx4a65c_add_72be8_14 : decode cJx4a65c_add_72be8 14 = .ok (.aastore, 1) := by decide +kernel
theorem dJx4a65c_add_72be8_15 : decode cJx4a65c_add_72be8 15 = .ok (.aload_n 0, 1) := by decide +kernel
theorem dJx4a65c_add_72be8_16 : decode cJx4a65c_add_72be8 16 = .ok (.iload_n 3, 1) := by decide +kernel
theorem dJx4a65c_add_72be8_17 : decode cJx4a65c_add_72be8 17 = .ok (.iconst 1, 1) := by decide +kernel
theorem dJx4a65c_add_72be8_18 : decode cJx4a65c_add_72be8 18 = .ok (.iadd, 1) := by decide +kernel
theorem dJx4a65c_add_72be8_19 : decode cJx4a65c_add_72be8 19 = .ok (.putfield 48, 3) := by decide +kernel
theorem dJx4a65c_add_72be8_22 : decode cJx4a65c_add_72be8 22 = .ok (.return_, 1) := by decide +kernel
theorem dJx4a65c_add_9ea2d_0 : decode cJx4a65c_add_9ea2d 0 = .ok (.aload_n 0, 1) := by decide +kernel
theorem dJx4a65c_add_9ea2d_1 : decode cJx4a65c_add_9ea2d 1 = .ok (.dup, 1) := by decide +kernel
theorem dJx4a65c_add_9ea2d_2 : decode cJx4a65c_add_9ea2d 2 = .ok (.getfield 63, 3) := by decide +kernel
theorem dJx4a65c_add_9ea2d_5 : decode cJx4a65c_add_9ea2d 5 = .ok (.iconst 1, 1) := by decide +kernel
theorem dJx4a65c_add_9ea2d_6 : decode cJx4a65c_add_9ea2d 6 = .ok (.iadd, 1) := by decide +kernel
theorem dJx4a65c_add_9ea2d_7 : decode cJx4a65c_add_9ea2d 7 = .ok (.putfield 63, 3) := by decide +kernel
theorem dJx4a65c_add_9ea2d_10 : decode cJx4a65c_add_9ea2d 10 = .ok (.aload_n 0, 1) := by decide +kernel
theorem dJx4a65c_add_9ea2d_11 : decode cJx4a65c_add_9ea2d 11 = .ok (.aload_n 1, 1) := by decide +kernel
theorem dJx4a65c_add_9ea2d_12 : decode cJx4a65c_add_9ea2d 12 = .ok (.aload_n 0, 1) := by decide +kernel
theorem dJx4a65c_add_9ea2d_13 : decode cJx4a65c_add_9ea2d 13 = .ok (.getfield 9, 3) := by decide +kernel
theorem dJx4a65c_add_9ea2d_16 : decode cJx4a65c_add_9ea2d 16 = .ok (.aload_n 0, 1) := by decide +kernel
theorem dJx4a65c_add_9ea2d_17 : decode cJx4a65c_add_9ea2d 17 = .ok (.getfield 48, 3) := by decide +kernel
theorem dJx4a65c_add_9ea2d_20 : decode cJx4a65c_add_9ea2d 20 = .ok (.invokevirtual 131, 3) := by decide +kernel
theorem dJx4a65c_add_9ea2d_23 : decode cJx4a65c_add_9ea2d 23 = .ok (.iconst 1, 1) := by decide +kernel
theorem dJx4a65c_add_9ea2d_24 : decode cJx4a65c_add_9ea2d 24 = .ok (.ireturn, 1) := by decide +kernel
theorem dJ7_copyOf_1904c_0 : decode cJ7_copyOf_1904c 0 = .ok (.aload_n 0, 1) := by decide +kernel
theorem dJ7_copyOf_1904c_1 : decode cJ7_copyOf_1904c 1 = .ok (.iload_n 1, 1) := by decide +kernel
theorem dJ7_copyOf_1904c_2 : decode cJ7_copyOf_1904c 2 = .ok (.aload_n 0, 1) := by decide +kernel
theorem dJ7_copyOf_1904c_3 : decode cJ7_copyOf_1904c 3 = .ok (.invokevirtual 86, 3) := by decide +kernel
theorem dJ7_copyOf_1904c_6 : decode cJ7_copyOf_1904c 6 = .ok (.invokestatic 300, 3) := by decide +kernel
theorem dJ7_copyOf_1904c_9 : decode cJ7_copyOf_1904c 9 = .ok (.areturn, 1) := by decide +kernel
theorem dJ7_copyOf_6403c_0 : decode cJ7_copyOf_6403c 0 = .ok (.aload_n 2, 1) := by decide +kernel
theorem dJ7_copyOf_6403c_1 : decode cJ7_copyOf_6403c 1 = .ok (.ldc 110, 2) := by decide +kernel
theorem dJ7_copyOf_6403c_3 : decode cJ7_copyOf_6403c 3 = .ok (.if_acmp .ne 10, 3) := by decide +kernel
theorem dJ7_copyOf_6403c_6 : decode cJ7_copyOf_6403c 6 = .ok (.iload_n 1, 1) := by decide +kernel
theorem dJ7_copyOf_6403c_7 : decode cJ7_copyOf_6403c 7 = .ok (.anewarray 2, 3) := by decide +kernel
theorem dJ7_copyOf_6403c_10 : decode cJ7_copyOf_6403c 10 = .ok (.goto 14, 3) := by decide +kernel
theorem dJ7_copyOf_6403c_13 : decode cJ7_copyOf_6403c 13 = .ok (.aload_n 2, 1) := by decide +kernel
theorem dJ7_copyOf_6403c_14 : decode cJ7_copyOf_6403c 14 = .ok (.invokevirtual 90, 3) := by decide +kernel
theorem dJ7_copyOf_6403c_17 : decode cJ7_copyOf_6403c 17 = .ok (.iload_n 1, 1) := by decide +kernel
theorem dJ7_copyOf_6403c_18 : decode cJ7_copyOf_6403c 18 = .ok (.invokestatic 95, 3) := by decide +kernel
theorem dJ7_copyOf_6403c_21 : decode cJ7_copyOf_6403c 21 = .ok (.checkcast 110, 3) := by decide +kernel
theorem dJ7_copyOf_6403c_24 : decode cJ7_copyOf_6403c 24 = .ok (.astore_n 3, 1) := by decide +kernel
theorem dJ7_copyOf_6403c_25 : decode cJ7_copyOf_6403c 25 = .ok (.aload_n 0, 1) := by decide +kernel
theorem dJ7_copyOf_6403c_26 : decode cJ7_copyOf_6403c 26 = .ok (.iconst 0, 1) := by decide +kernel
theorem dJ7_copyOf_6403c_27 : decode cJ7_copyOf_6403c 27 = .ok (.aload_n 3, 1) := by decide +kernel
theorem dJ7_copyOf_6403c_28 : decode cJ7_copyOf_6403c 28 = .ok (.iconst 0, 1) := by decide +kernel
theorem dJ7_copyOf_6403c_29 : decode cJ7_copyOf_6403c 29 = .ok (.aload_n 0, 1) := by decide +kernel
theorem dJ7_copyOf_6403c_30 : decode cJ7_copyOf_6403c 30 = .ok (.arraylength, 1) := by decide +kernel
theorem dJ7_copyOf_6403c_31 : decode cJ7_copyOf_6403c 31 = .ok (.iload_n 1, 1) := by decide +kernel
theorem dJ7_copyOf_6403c_32 : decode cJ7_copyOf_6403c 32 = .ok (.invokestatic 304, 3) := by decide +kernel
theorem dJ7_copyOf_6403c_35 : decode cJ7_copyOf_6403c 35 = .ok (.invokestatic 150, 3) := by decide +kernel
theorem dJ7_copyOf_6403c_38 : decode cJ7_copyOf_6403c 38 = .ok (.aload_n 3, 1) := by decide +kernel
theorem dJ7_copyOf_6403c_39 : decode cJ7_copyOf_6403c 39 = .ok (.areturn, 1) := by decide +kernel
theorem dJ15_checkIndex_7cf53_0 : decode cJ15_checkIndex_7cf53 0 = .ok (.iload_n 0, 1) := by decide +kernel
theorem dJ15_checkIndex_7cf53_1 : decode cJ15_checkIndex_7cf53 1 = .ok (.iload_n 1, 1) := by decide +kernel
theorem dJ15_checkIndex_7cf53_2 : decode cJ15_checkIndex_7cf53 2 = .ok (.aconst_null, 1) := by decide +kernel
theorem dJ15_checkIndex_7cf53_3 : decode cJ15_checkIndex_7cf53 3 = .ok (.invokestatic 105, 3) := by decide +kernel
theorem dJ15_checkIndex_7cf53_6 : decode cJ15_checkIndex_7cf53 6 = .ok (.ireturn, 1) := by decide +kernel
theorem dJ8_newLength_cabcc_0 : decode cJ8_newLength_cabcc 0 = .ok (.iload_n 0, 1) := by decide +kernel
theorem dJ8_newLength_cabcc_1 : decode cJ8_newLength_cabcc 1 = .ok (.iload_n 1, 1) := by decide +kernel
theorem dJ8_newLength_cabcc_2 : decode cJ8_newLength_cabcc 2 = .ok (.iload_n 2, 1) := by decide +kernel
theorem dJ8_newLength_cabcc_3 : decode cJ8_newLength_cabcc 3 = .ok (.invokestatic 194, 3) := by decide +kernel
theorem dJ8_newLength_cabcc_6 : decode cJ8_newLength_cabcc 6 = .ok (.iadd, 1) := by decide +kernel
theorem dJ8_newLength_cabcc_7 : decode cJ8_newLength_cabcc 7 = .ok (.istore_n 3, 1) := by decide +kernel
theorem dJ8_newLength_cabcc_8 : decode cJ8_newLength_cabcc 8 = .ok (.iconst 0, 1) := by decide +kernel
theorem dJ8_newLength_cabcc_9 : decode cJ8_newLength_cabcc 9 = .ok (.iload_n 3, 1) := by decide +kernel
theorem dJ8_newLength_cabcc_10 : decode cJ8_newLength_cabcc 10 = .ok (.if_icmp .ge 11, 3) := by decide +kernel
theorem dJ8_newLength_cabcc_13 : decode cJ8_newLength_cabcc 13 = .ok (.iload_n 3, 1) := by decide +kernel
theorem dJ8_newLength_cabcc_14 : decode cJ8_newLength_cabcc 14 = .ok (.ldc 200, 2) := by decide +kernel
theorem dJ8_newLength_cabcc_16 : decode cJ8_newLength_cabcc 16 = .ok (.if_icmp .gt 5, 3) := by decide +kernel
theorem dJ8_newLength_cabcc_19 : decode cJ8_newLength_cabcc 19 = .ok (.iload_n 3, 1) := by decide +kernel
theorem dJ8_newLength_cabcc_20 : decode cJ8_newLength_cabcc 20 = .ok (.ireturn, 1) := by decide +kernel
theorem dJ8_newLength_cabcc_21 : decode cJ8_newLength_cabcc 21 = .ok (.iload_n 0, 1) := by decide +kernel
theorem dJ8_newLength_cabcc_22 : decode cJ8_newLength_cabcc 22 = .ok (.iload_n 1, 1) := by decide +kernel
theorem dJ8_newLength_cabcc_23 : decode cJ8_newLength_cabcc 23 = .ok (.invokestatic 201, 3) := by decide +kernel
theorem dJ8_newLength_cabcc_26 : decode cJ8_newLength_cabcc 26 = .ok (.ireturn, 1) := by decide +kernel
theorem dJ8_hugeLength_7cf53_0 : decode cJ8_hugeLength_7cf53 0 = .ok (.iload_n 0, 1) := by decide +kernel
theorem dJ8_hugeLength_7cf53_1 : decode cJ8_hugeLength_7cf53 1 = .ok (.iload_n 1, 1) := by decide +kernel
theorem dJ8_hugeLength_7cf53_2 : decode cJ8_hugeLength_7cf53 2 = .ok (.iadd, 1) := by decide +kernel
theorem dJ8_hugeLength_7cf53_3 : decode cJ8_hugeLength_7cf53 3 = .ok (.istore_n 2, 1) := by decide +kernel
theorem dJ8_hugeLength_7cf53_4 : decode cJ8_hugeLength_7cf53 4 = .ok (.iload_n 2, 1) := by decide +kernel
theorem dJ8_hugeLength_7cf53_5 : decode cJ8_hugeLength_7cf53 5 = .ok (.ifCond .ge 44, 3) := by decide +kernel
theorem dJ8_hugeLength_7cf53_8 : decode cJ8_hugeLength_7cf53 8 = .ok (.new 204, 3) := by decide +kernel
theorem dJ8_hugeLength_7cf53_11 : decode cJ8_hugeLength_7cf53 11 = .ok (.dup, 1) := by decide +kernel
theorem dJ8_hugeLength_7cf53_12 : decode cJ8_hugeLength_7cf53 12 = .ok (.new 89, 3) := by decide +kernel
theorem dJ8_hugeLength_7cf53_15 : decode cJ8_hugeLength_7cf53 15 = .ok (.dup, 1) := by decide +kernel
theorem dJ8_hugeLength_7cf53_16 : decode cJ8_hugeLength_7cf53 16 = .ok (.invokespecial 91, 3) := by decide +kernel
theorem dJ8_hugeLength_7cf53_19 : decode cJ8_hugeLength_7cf53 19 = .ok (.ldc 206, 2) := by decide +kernel
theorem dJ8_hugeLength_7cf53_21 : decode cJ8_hugeLength_7cf53 21 = .ok (.invokevirtual 94, 3) := by decide +kernel
theorem dJ8_hugeLength_7cf53_24 : decode cJ8_hugeLength_7cf53 24 = .ok (.iload_n 0, 1) := by decide +kernel
theorem dJ8_hugeLength_7cf53_25 : decode cJ8_hugeLength_7cf53 25 = .ok (.invokevirtual 98, 3) := by decide +kernel
theorem dJ8_hugeLength_7cf53_28 : decode cJ8_hugeLength_7cf53 28 = .ok (.ldc 208, 2) := by decide +kernel
theorem dJ8_hugeLength_7cf53_30 : decode cJ8_hugeLength_7cf53 30 = .ok (.invokevirtual 94, 3) := by decide +kernel
theorem dJ8_hugeLength_7cf53_33 : decode cJ8_hugeLength_7cf53 33 = .ok (.iload_n 1, 1) := by decide +kernel
theorem dJ8_hugeLength_7cf53_34 : decode cJ8_hugeLength_7cf53 34 = .ok (.invokevirtual 98, 3) := by decide +kernel
theorem dJ8_hugeLength_7cf53_37 : decode cJ8_hugeLength_7cf53 37 = .ok (.ldc 210, 2) := by decide +kernel
theorem dJ8_hugeLength_7cf53_39 : decode cJ8_hugeLength_7cf53 39 = .ok (.invokevirtual 94, 3) := by decide +kernel
theorem dJ8_hugeLength_7cf53_42 : decode cJ8_hugeLength_7cf53 42 = .ok (.invokevirtual 101, 3) := by decide +kernel
theorem dJ8_hugeLength_7cf53_45 : decode cJ8_hugeLength_7cf53 45 = .ok (.invokespecial 212, 3) := by decide +kernel
theorem dJ8_hugeLength_7cf53_48 : decode cJ8_hugeLength_7cf53 48 = .ok (.athrow, 1) := by decide +kernel
theorem dJ8_hugeLength_7cf53_49 : decode cJ8_hugeLength_7cf53 49 = .ok (.iload_n 2, 1) := by decide +kernel
theorem dJ8_hugeLength_7cf53_50 : decode cJ8_hugeLength_7cf53 50 = .ok (.ldc 200, 2) := by decide +kernel
theorem dJ8_hugeLength_7cf53_52 : decode cJ8_hugeLength_7cf53 52 = .ok (.if_icmp .gt 6, 3) := by decide +kernel
theorem dJ8_hugeLength_7cf53_55 : decode cJ8_hugeLength_7cf53 55 = .ok (.ldc 200, 2) := by decide +kernel
theorem dJ8_hugeLength_7cf53_57 : decode cJ8_hugeLength_7cf53 57 = .ok (.ireturn, 1) := by decide +kernel
theorem dJ8_hugeLength_7cf53_58 : decode cJ8_hugeLength_7cf53 58 = .ok (.iload_n 2, 1) := by decide +kernel
theorem dJ8_hugeLength_7cf53_59 : decode cJ8_hugeLength_7cf53 59 = .ok (.ireturn, 1) := by decide +kernel
theorem dJ3_checkIndex_8e157_0 : decode cJ3_checkIndex_8e157 0 = .ok (.iload_n 0, 1) := by decide +kernel
theorem dJ3_checkIndex_8e157_1 : decode cJ3_checkIndex_8e157 1 = .ok (.ifCond .lt 8, 3) := by decide +kernel
theorem dJ3_checkIndex_8e157_4 : decode cJ3_checkIndex_8e157 4 = .ok (.iload_n 0, 1) := by decide +kernel
theorem dJ3_checkIndex_8e157_5 : decode cJ3_checkIndex_8e157 5 = .ok (.iload_n 1, 1) := by decide +kernel
theorem dJ3_checkIndex_8e157_6 : decode cJ3_checkIndex_8e157 6 = .ok (.if_icmp .lt 10, 3) := by decide +kernel
theorem dJ3_checkIndex_8e157_9 : decode cJ3_checkIndex_8e157 9 = .ok (.aload_n 2, 1) := by decide +kernel
theorem dJ3_checkIndex_8e157_10 : decode cJ3_checkIndex_8e157 10 = .ok (.iload_n 0, 1) := by decide +kernel
theorem dJ3_checkIndex_8e157_11 : decode cJ3_checkIndex_8e157 11 = .ok (.iload_n 1, 1) := by decide +kernel
theorem dJ3_checkIndex_8e157_12 : decode cJ3_checkIndex_8e157 12 = .ok (.invokestatic 95, 3) := by decide +kernel
theorem dJ3_checkIndex_8e157_15 : decode cJ3_checkIndex_8e157 15 = .ok (.athrow, 1) := by decide +kernel
theorem dJ3_checkIndex_8e157_16 : decode cJ3_checkIndex_8e157 16 = .ok (.iload_n 0, 1) := by decide +kernel
theorem dJ3_checkIndex_8e157_17 : decode cJ3_checkIndex_8e157 17 = .ok (.ireturn, 1) := by decide +kernel
theorem dL_cell_0 : decode cL_cell 0 = .ok (.iload_n 1, 1) := by decide +kernel
theorem dL_cell_1 : decode cL_cell 1 = .ok (.aload_n 0, 1) := by decide +kernel
theorem dL_cell_2 : decode cL_cell 2 = .ok (.arraylength, 1) := by decide +kernel
theorem dL_cell_3 : decode cL_cell 3 = .ok (.if_icmp .ge 9, 3) := by decide +kernel
theorem dL_cell_6 : decode cL_cell 6 = .ok (.aload_n 0, 1) := by decide +kernel
theorem dL_cell_7 : decode cL_cell 7 = .ok (.iload_n 1, 1) := by decide +kernel
theorem dL_cell_8 : decode cL_cell 8 = .ok (.iaload, 1) := by decide +kernel
theorem dL_cell_9 : decode cL_cell 9 = .ok (.goto 15, 3) := by decide +kernel
theorem dL_cell_12 : decode cL_cell 12 = .ok (.sipush 7919, 3) := by decide +kernel
theorem dL_cell_15 : decode cL_cell 15 = .ok (.iload_n 1, 1) := by decide +kernel
theorem dL_cell_16 : decode cL_cell 16 = .ok (.iconst 3, 1) := by decide +kernel
theorem dL_cell_17 : decode cL_cell 17 = .ok (.iadd, 1) := by decide +kernel
theorem dL_cell_18 : decode cL_cell 18 = .ok (.imul, 1) := by decide +kernel
theorem dL_cell_19 : decode cL_cell 19 = .ok (.iload_n 1, 1) := by decide +kernel
theorem dL_cell_20 : decode cL_cell 20 = .ok (.bipush 11, 2) := by decide +kernel
theorem dL_cell_22 : decode cL_cell 22 = .ok (.iadd, 1) := by decide +kernel
theorem dL_cell_23 : decode cL_cell 23 = .ok (.imul, 1) := by decide +kernel
theorem dL_cell_24 : decode cL_cell 24 = .ok (.ireturn, 1) := by decide +kernel
theorem dL_low_0 : decode cL_low 0 = .ok (.iload_n 0, 1) := by decide +kernel
theorem dL_low_1 : decode cL_low 1 = .ok (.ldc 7, 2) := by decide +kernel
theorem dL_low_3 : decode cL_low 3 = .ok (.iand, 1) := by decide +kernel
theorem dL_low_4 : decode cL_low 4 = .ok (.iload_n 1, 1) := by decide +kernel
theorem dL_low_5 : decode cL_low 5 = .ok (.irem, 1) := by decide +kernel
theorem dL_low_6 : decode cL_low 6 = .ok (.ireturn, 1) := by decide +kernel
theorem dL_areDue_0 : decode cL_areDue 0 = .ok (.iconst (-1), 1) := by decide +kernel
theorem dL_areDue_1 : decode cL_areDue 1 = .ok (.istore_n 3, 1) := by decide +kernel
theorem dL_areDue_2 : decode cL_areDue 2 = .ok (.aload_n 0, 1) := by decide +kernel
theorem dL_areDue_3 : decode cL_areDue 3 = .ok (.iload_n 1, 1) := by decide +kernel
theorem dL_areDue_4 : decode cL_areDue 4 = .ok (.invokevirtual 8, 3) := by decide +kernel
theorem dL_areDue_7 : decode cL_areDue 7 = .ok (.istore 4, 2) := by decide +kernel
theorem dL_areDue_9 : decode cL_areDue 9 = .ok (.aload_n 0, 1) := by decide +kernel
theorem dL_areDue_10 : decode cL_areDue 10 = .ok (.iload_n 1, 1) := by decide +kernel
theorem dL_areDue_11 : decode cL_areDue 11 = .ok (.iload 4, 2) := by decide +kernel
theorem dL_areDue_13 : decode cL_areDue 13 = .ok (.invokevirtual 14, 3) := by decide +kernel
theorem dL_areDue_16 : decode cL_areDue 16 = .ok (.iconst (-1), 1) := by decide +kernel
theorem dL_areDue_17 : decode cL_areDue 17 = .ok (.if_icmp .ne 7, 3) := by decide +kernel
theorem dL_areDue_20 : decode cL_areDue 20 = .ok (.iconst 1, 1) := by decide +kernel
theorem dL_areDue_21 : decode cL_areDue 21 = .ok (.goto 4, 3) := by decide +kernel
theorem dL_areDue_24 : decode cL_areDue 24 = .ok (.iconst 0, 1) := by decide +kernel
theorem dL_areDue_25 : decode cL_areDue 25 = .ok (.istore 5, 2) := by decide +kernel
theorem dL_areDue_27 : decode cL_areDue 27 = .ok (.iconst 0, 1) := by decide +kernel
theorem dL_areDue_28 : decode cL_areDue 28 = .ok (.istore 6, 2) := by decide +kernel
theorem dL_areDue_30 : decode cL_areDue 30 = .ok (.iload 6, 2) := by decide +kernel
theorem dL_areDue_32 : decode cL_areDue 32 = .ok (.iload 4, 2) := by decide +kernel
theorem dL_areDue_34 : decode cL_areDue 34 = .ok (.if_icmp .ge 90, 3) := by decide +kernel
theorem dL_areDue_37 : decode cL_areDue 37 = .ok (.iload 5, 2) := by decide +kernel
theorem dL_areDue_39 : decode cL_areDue 39 = .ok (.ifCond .eq 85, 3) := by decide +kernel
theorem dL_areDue_42 : decode cL_areDue 42 = .ok (.aload_n 0, 1) := by decide +kernel
theorem dL_areDue_43 : decode cL_areDue 43 = .ok (.iload_n 1, 1) := by decide +kernel
theorem dL_areDue_44 : decode cL_areDue 44 = .ok (.iload 6, 2) := by decide +kernel
theorem dL_areDue_46 : decode cL_areDue 46 = .ok (.invokevirtual 14, 3) := by decide +kernel
theorem dL_areDue_49 : decode cL_areDue 49 = .ok (.istore 7, 2) := by decide +kernel
theorem dL_areDue_51 : decode cL_areDue 51 = .ok (.iload 7, 2) := by decide +kernel
theorem dL_areDue_53 : decode cL_areDue 53 = .ok (.iload_n 3, 1) := by decide +kernel
theorem dL_areDue_54 : decode cL_areDue 54 = .ok (.if_icmp .le 43, 3) := by decide +kernel
theorem dL_areDue_57 : decode cL_areDue 57 = .ok (.iload 7, 2) := by decide +kernel
theorem dL_areDue_59 : decode cL_areDue 59 = .ok (.sipush 720, 3) := by decide +kernel
theorem dL_areDue_62 : decode cL_areDue 62 = .ok (.if_icmp .ge 35, 3) := by decide +kernel
theorem dL_areDue_65 : decode cL_areDue 65 = .ok (.aload_n 0, 1) := by decide +kernel
theorem dL_areDue_66 : decode cL_areDue 66 = .ok (.iload 7, 2) := by decide +kernel
theorem dL_areDue_68 : decode cL_areDue 68 = .ok (.invokevirtual 18, 3) := by decide +kernel
theorem dL_areDue_71 : decode cL_areDue 71 = .ok (.ifCond .eq 26, 3) := by decide +kernel
theorem dL_areDue_74 : decode cL_areDue 74 = .ok (.iload 6, 2) := by decide +kernel
theorem dL_areDue_76 : decode cL_areDue 76 = .ok (.ifCond .eq 17, 3) := by decide +kernel
theorem dL_areDue_79 : decode cL_areDue 79 = .ok (.aload_n 0, 1) := by decide +kernel
theorem dL_areDue_80 : decode cL_areDue 80 = .ok (.iload_n 1, 1) := by decide +kernel
theorem dL_areDue_81 : decode cL_areDue 81 = .ok (.iload 6, 2) := by decide +kernel
theorem dL_areDue_83 : decode cL_areDue 83 = .ok (.iconst 1, 1) := by decide +kernel
theorem dL_areDue_84 : decode cL_areDue 84 = .ok (.isub, 1) := by decide +kernel
theorem dL_areDue_85 : decode cL_areDue 85 = .ok (.invokevirtual 14, 3) := by decide +kernel
theorem dL_areDue_88 : decode cL_areDue 88 = .ok (.iload 7, 2) := by decide +kernel
theorem dL_areDue_90 : decode cL_areDue 90 = .ok (.if_icmp .ge 7, 3) := by decide +kernel
theorem dL_areDue_93 : decode cL_areDue 93 = .ok (.iconst 1, 1) := by decide +kernel
theorem dL_areDue_94 : decode cL_areDue 94 = .ok (.goto 4, 3) := by decide +kernel
theorem dL_areDue_97 : decode cL_areDue 97 = .ok (.iconst 0, 1) := by decide +kernel
theorem dL_areDue_98 : decode cL_areDue 98 = .ok (.istore 5, 2) := by decide +kernel
theorem dL_areDue_100 : decode cL_areDue 100 = .ok (.iload 7, 2) := by decide +kernel
theorem dL_areDue_102 : decode cL_areDue 102 = .ok (.istore_n 3, 1) := by decide +kernel
theorem dL_areDue_103 : decode cL_areDue 103 = .ok (.iload 6, 2) := by decide +kernel
theorem dL_areDue_105 : decode cL_areDue 105 = .ok (.iload 4, 2) := by decide +kernel
theorem dL_areDue_107 : decode cL_areDue 107 = .ok (.bipush 60, 2) := by decide +kernel
theorem dL_areDue_109 : decode cL_areDue 109 = .ok (.if_icmp .le 8, 3) := by decide +kernel
theorem dL_areDue_112 : decode cL_areDue 112 = .ok (.bipush 13, 2) := by decide +kernel
theorem dL_areDue_114 : decode cL_areDue 114 = .ok (.goto 4, 3) := by decide +kernel
theorem dL_areDue_117 : decode cL_areDue 117 = .ok (.iconst 1, 1) := by decide +kernel
theorem dL_areDue_118 : decode cL_areDue 118 = .ok (.iadd, 1) := by decide +kernel
theorem dL_areDue_119 : decode cL_areDue 119 = .ok (.istore 6, 2) := by decide +kernel
theorem dL_areDue_121 : decode cL_areDue 121 = .ok (.goto (-91), 3) := by decide +kernel
theorem dL_areDue_124 : decode cL_areDue 124 = .ok (.aload_n 0, 1) := by decide +kernel
theorem dL_areDue_125 : decode cL_areDue 125 = .ok (.iload_n 1, 1) := by decide +kernel
theorem dL_areDue_126 : decode cL_areDue 126 = .ok (.iload_n 2, 1) := by decide +kernel
theorem dL_areDue_127 : decode cL_areDue 127 = .ok (.invokevirtual 22, 3) := by decide +kernel
theorem dL_areDue_130 : decode cL_areDue 130 = .ok (.istore 6, 2) := by decide +kernel
theorem dL_areDue_132 : decode cL_areDue 132 = .ok (.iload 5, 2) := by decide +kernel
theorem dL_areDue_134 : decode cL_areDue 134 = .ok (.ifCond .eq 39, 3) := by decide +kernel
theorem dL_areDue_137 : decode cL_areDue 137 = .ok (.aload_n 0, 1) := by decide +kernel
theorem dL_areDue_138 : decode cL_areDue 138 = .ok (.iload_n 1, 1) := by decide +kernel
theorem dL_areDue_139 : decode cL_areDue 139 = .ok (.iload_n 2, 1) := by decide +kernel
theorem dL_areDue_140 : decode cL_areDue 140 = .ok (.invokevirtual 25, 3) := by decide +kernel
theorem dL_areDue_143 : decode cL_areDue 143 = .ok (.iload 6, 2) := by decide +kernel
theorem dL_areDue_145 : decode cL_areDue 145 = .ok (.if_icmp .ne 28, 3) := by decide +kernel
theorem dL_areDue_148 : decode cL_areDue 148 = .ok (.iload 6, 2) := by decide +kernel
theorem dL_areDue_150 : decode cL_areDue 150 = .ok (.iconst (-1), 1) := by decide +kernel
theorem dL_areDue_151 : decode cL_areDue 151 = .ok (.if_icmp .eq 18, 3) := by decide +kernel
theorem dL_areDue_154 : decode cL_areDue 154 = .ok (.iload 6, 2) := by decide +kernel
theorem dL_areDue_156 : decode cL_areDue 156 = .ok (.iload_n 2, 1) := by decide +kernel
theorem dL_areDue_157 : decode cL_areDue 157 = .ok (.if_icmp .lt 16, 3) := by decide +kernel
theorem dL_areDue_160 : decode cL_areDue 160 = .ok (.aload_n 0, 1) := by decide +kernel
theorem dL_areDue_161 : decode cL_areDue 161 = .ok (.iload 6, 2) := by decide +kernel
theorem dL_areDue_163 : decode cL_areDue 163 = .ok (.invokevirtual 18, 3) := by decide +kernel
theorem dL_areDue_166 : decode cL_areDue 166 = .ok (.ifCond .eq 7, 3) := by decide +kernel
theorem dL_areDue_169 : decode cL_areDue 169 = .ok (.iconst 1, 1) := by decide +kernel
theorem dL_areDue_170 : decode cL_areDue 170 = .ok (.goto 4, 3) := by decide +kernel
theorem dL_areDue_173 : decode cL_areDue 173 = .ok (.iconst 0, 1) := by decide +kernel
theorem dL_areDue_174 : decode cL_areDue 174 = .ok (.ireturn, 1) := by decide +kernel
theorem dL_isOrder_0 : decode cL_isOrder 0 = .ok (.iconst 0, 1) := by decide +kernel
theorem dL_isOrder_1 : decode cL_isOrder 1 = .ok (.istore_n 3, 1) := by decide +kernel
theorem dL_isOrder_2 : decode cL_isOrder 2 = .ok (.aload_n 0, 1) := by decide +kernel
theorem dL_isOrder_3 : decode cL_isOrder 3 = .ok (.iload_n 1, 1) := by decide +kernel
theorem dL_isOrder_4 : decode cL_isOrder 4 = .ok (.iconst 0, 1) := by decide +kernel
theorem dL_isOrder_5 : decode cL_isOrder 5 = .ok (.invokevirtual 28, 3) := by decide +kernel
theorem dL_isOrder_8 : decode cL_isOrder 8 = .ok (.istore 4, 2) := by decide +kernel
theorem dL_isOrder_10 : decode cL_isOrder 10 = .ok (.iconst 1, 1) := by decide +kernel
theorem dL_isOrder_11 : decode cL_isOrder 11 = .ok (.istore 5, 2) := by decide +kernel
theorem dL_isOrder_13 : decode cL_isOrder 13 = .ok (.iload 4, 2) := by decide +kernel
theorem dL_isOrder_15 : decode cL_isOrder 15 = .ok (.ifCond .lt 136, 3) := by decide +kernel
theorem dL_isOrder_18 : decode cL_isOrder 18 = .ok (.iload_n 3, 1) := by decide +kernel
theorem dL_isOrder_19 : decode cL_isOrder 19 = .ok (.bipush 12, 2) := by decide +kernel
theorem dL_isOrder_21 : decode cL_isOrder 21 = .ok (.if_icmp .ge 130, 3) := by decide +kernel
theorem dL_isOrder_24 : decode cL_isOrder 24 = .ok (.iload 5, 2) := by decide +kernel
theorem dL_isOrder_26 : decode cL_isOrder 26 = .ok (.ifCond .eq 125, 3) := by decide +kernel
theorem dL_isOrder_29 : decode cL_isOrder 29 = .ok (.aload_n 0, 1) := by decide +kernel
theorem dL_isOrder_30 : decode cL_isOrder 30 = .ok (.iload 4, 2) := by decide +kernel
theorem dL_isOrder_32 : decode cL_isOrder 32 = .ok (.invokevirtual 31, 3) := by decide +kernel
theorem dL_isOrder_35 : decode cL_isOrder 35 = .ok (.istore 6, 2) := by decide +kernel
theorem dL_isOrder_37 : decode cL_isOrder 37 = .ok (.iload 6, 2) := by decide +kernel
theorem dL_isOrder_39 : decode cL_isOrder 39 = .ok (.ifCond .lt 34, 3) := by decide +kernel
theorem dL_isOrder_42 : decode cL_isOrder 42 = .ok (.iload 6, 2) := by decide +kernel
theorem dL_isOrder_44 : decode cL_isOrder 44 = .ok (.iload_n 1, 1) := by decide +kernel
theorem dL_isOrder_45 : decode cL_isOrder 45 = .ok (.if_icmp .gt 28, 3) := by decide +kernel
theorem dL_isOrder_48 : decode cL_isOrder 48 = .ok (.aload_n 0, 1) := by decide +kernel
theorem dL_isOrder_49 : decode cL_isOrder 49 = .ok (.iload 4, 2) := by decide +kernel
theorem dL_isOrder_51 : decode cL_isOrder 51 = .ok (.invokevirtual 34, 3) := by decide +kernel
theorem dL_isOrder_54 : decode cL_isOrder 54 = .ok (.iconst (-1), 1) := by decide +kernel
theorem dL_isOrder_55 : decode cL_isOrder 55 = .ok (.if_icmp .ne 18, 3) := by decide +kernel
theorem dL_isOrder_58 : decode cL_isOrder 58 = .ok (.aload_n 0, 1) := by decide +kernel
theorem dL_isOrder_59 : decode cL_isOrder 59 = .ok (.iload_n 1, 1) := by decide +kernel
theorem dL_isOrder_60 : decode cL_isOrder 60 = .ok (.iconst 0, 1) := by decide +kernel
theorem dL_isOrder_61 : decode cL_isOrder 61 = .ok (.invokevirtual 28, 3) := by decide +kernel
theorem dL_isOrder_64 : decode cL_isOrder 64 = .ok (.iload 4, 2) := by decide +kernel
theorem dL_isOrder_66 : decode cL_isOrder 66 = .ok (.if_icmp .ne 7, 3) := by decide +kernel
theorem dL_isOrder_69 : decode cL_isOrder 69 = .ok (.iconst 1, 1) := by decide +kernel
theorem dL_isOrder_70 : decode cL_isOrder 70 = .ok (.goto 4, 3) := by decide +kernel
theorem dL_isOrder_73 : decode cL_isOrder 73 = .ok (.iconst 0, 1) := by decide +kernel
theorem dL_isOrder_74 : decode cL_isOrder 74 = .ok (.istore 5, 2) := by decide +kernel
theorem dL_isOrder_76 : decode cL_isOrder 76 = .ok (.aload_n 0, 1) := by decide +kernel
theorem dL_isOrder_77 : decode cL_isOrder 77 = .ok (.iload 4, 2) := by decide +kernel
theorem dL_isOrder_79 : decode cL_isOrder 79 = .ok (.invokevirtual 37, 3) := by decide +kernel
theorem dL_isOrder_82 : decode cL_isOrder 82 = .ok (.istore 7, 2) := by decide +kernel
theorem dL_isOrder_84 : decode cL_isOrder 84 = .ok (.aload_n 2, 1) := by decide +kernel
theorem dL_isOrder_85 : decode cL_isOrder 85 = .ok (.iconst 0, 1) := by decide +kernel
theorem dL_isOrder_86 : decode cL_isOrder 86 = .ok (.dup2, 1) := by decide +kernel
theorem dL_isOrder_87 : decode cL_isOrder 87 = .ok (.iaload, 1) := by decide +kernel
theorem dL_isOrder_88 : decode cL_isOrder 88 = .ok (.iconst 1, 1) := by decide +kernel
theorem dL_isOrder_89 : decode cL_isOrder 89 = .ok (.iadd, 1) := by decide +kernel
theorem dL_isOrder_90 : decode cL_isOrder 90 = .ok (.iastore, 1) := by decide +kernel
theorem dL_isOrder_91 : decode cL_isOrder 91 = .ok (.iload 5, 2) := by decide +kernel
theorem dL_isOrder_93 : decode cL_isOrder 93 = .ok (.ifCond .eq 41, 3) := by decide +kernel
theorem dL_isOrder_96 : decode cL_isOrder 96 = .ok (.iload 7, 2) := by decide +kernel
theorem dL_isOrder_98 : decode cL_isOrder 98 = .ok (.aload_n 0, 1) := by decide +kernel
theorem dL_isOrder_99 : decode cL_isOrder 99 = .ok (.invokevirtual 40, 3) := by decide +kernel
theorem dL_isOrder_102 : decode cL_isOrder 102 = .ok (.iload 6, 2) := by decide +kernel
theorem dL_isOrder_104 : decode cL_isOrder 104 = .ok (.isub, 1) := by decide +kernel
theorem dL_isOrder_105 : decode cL_isOrder 105 = .ok (.if_icmp .ne 29, 3) := by decide +kernel
theorem dL_isOrder_108 : decode cL_isOrder 108 = .ok (.aload_n 0, 1) := by decide +kernel
theorem dL_isOrder_109 : decode cL_isOrder 109 = .ok (.iload 4, 2) := by decide +kernel
theorem dL_isOrder_111 : decode cL_isOrder 111 = .ok (.invokevirtual 44, 3) := by decide +kernel
theorem dL_isOrder_114 : decode cL_isOrder 114 = .ok (.ifCond .lt 20, 3) := by decide +kernel
theorem dL_isOrder_117 : decode cL_isOrder 117 = .ok (.aload_n 0, 1) := by decide +kernel
theorem dL_isOrder_118 : decode cL_isOrder 118 = .ok (.iload 4, 2) := by decide +kernel
theorem dL_isOrder_120 : decode cL_isOrder 120 = .ok (.aload_n 0, 1) := by decide +kernel
theorem dL_isOrder_121 : decode cL_isOrder 121 = .ok (.invokevirtual 40, 3) := by decide +kernel
theorem dL_isOrder_124 : decode cL_isOrder 124 = .ok (.invokevirtual 47, 3) := by decide +kernel
theorem dL_isOrder_127 : decode cL_isOrder 127 = .ok (.ifCond .eq 7, 3) := by decide +kernel
theorem dL_isOrder_130 : decode cL_isOrder 130 = .ok (.iconst 1, 1) := by decide +kernel
theorem dL_isOrder_131 : decode cL_isOrder 131 = .ok (.goto 4, 3) := by decide +kernel
theorem dL_isOrder_134 : decode cL_isOrder 134 = .ok (.iconst 0, 1) := by decide +kernel
theorem dL_isOrder_135 : decode cL_isOrder 135 = .ok (.istore 5, 2) := by decide +kernel
theorem dL_isOrder_137 : decode cL_isOrder 137 = .ok (.iinc 3 1, 3) := by decide +kernel
theorem dL_isOrder_140 : decode cL_isOrder 140 = .ok (.aload_n 0, 1) := by decide +kernel
theorem dL_isOrder_141 : decode cL_isOrder 141 = .ok (.iload_n 1, 1) := by decide +kernel
theorem dL_isOrder_142 : decode cL_isOrder 142 = .ok (.iconst 0, 1) := by decide +kernel
theorem dL_isOrder_143 : decode cL_isOrder 143 = .ok (.invokevirtual 28, 3) := by decide +kernel
theorem dL_isOrder_146 : decode cL_isOrder 146 = .ok (.istore 4, 2) := by decide +kernel
theorem dL_isOrder_148 : decode cL_isOrder 148 = .ok (.goto (-135), 3) := by decide +kernel
theorem dL_isOrder_151 : decode cL_isOrder 151 = .ok (.iconst 0, 1) := by decide +kernel
theorem dL_isOrder_152 : decode cL_isOrder 152 = .ok (.istore 6, 2) := by decide +kernel
theorem dL_isOrder_154 : decode cL_isOrder 154 = .ok (.iload 6, 2) := by decide +kernel
theorem dL_isOrder_156 : decode cL_isOrder 156 = .ok (.aload_n 0, 1) := by decide +kernel
theorem dL_isOrder_157 : decode cL_isOrder 157 = .ok (.invokevirtual 51, 3) := by decide +kernel
theorem dL_isOrder_160 : decode cL_isOrder 160 = .ok (.if_icmp .ge 46, 3) := by decide +kernel
theorem dL_isOrder_163 : decode cL_isOrder 163 = .ok (.iload_n 3, 1) := by decide +kernel
theorem dL_isOrder_164 : decode cL_isOrder 164 = .ok (.bipush 12, 2) := by decide +kernel
theorem dL_isOrder_166 : decode cL_isOrder 166 = .ok (.if_icmp .ge 40, 3) := by decide +kernel
theorem dL_isOrder_169 : decode cL_isOrder 169 = .ok (.iload 5, 2) := by decide +kernel
theorem dL_isOrder_171 : decode cL_isOrder 171 = .ok (.ifCond .eq 35, 3) := by decide +kernel
theorem dL_isOrder_174 : decode cL_isOrder 174 = .ok (.aload_n 0, 1) := by decide +kernel
theorem dL_isOrder_175 : decode cL_isOrder 175 = .ok (.iload 6, 2) := by decide +kernel
theorem dL_isOrder_177 : decode cL_isOrder 177 = .ok (.invokevirtual 31, 3) := by decide +kernel
theorem dL_isOrder_180 : decode cL_isOrder 180 = .ok (.istore 7, 2) := by decide +kernel
theorem dL_isOrder_182 : decode cL_isOrder 182 = .ok (.iload 7, 2) := by decide +kernel
theorem dL_isOrder_184 : decode cL_isOrder 184 = .ok (.ifCond .lt 9, 3) := by decide +kernel
theorem dL_isOrder_187 : decode cL_isOrder 187 = .ok (.iload 7, 2) := by decide +kernel
theorem dL_isOrder_189 : decode cL_isOrder 189 = .ok (.iload_n 1, 1) := by decide +kernel
theorem dL_isOrder_190 : decode cL_isOrder 190 = .ok (.if_icmp .le 7, 3) := by decide +kernel
theorem dL_isOrder_193 : decode cL_isOrder 193 = .ok (.iconst 1, 1) := by decide +kernel
theorem dL_isOrder_194 : decode cL_isOrder 194 = .ok (.goto 4, 3) := by decide +kernel
theorem dL_isOrder_197 : decode cL_isOrder 197 = .ok (.iconst 0, 1) := by decide +kernel
theorem dL_isOrder_198 : decode cL_isOrder 198 = .ok (.istore 5, 2) := by decide +kernel
theorem dL_isOrder_200 : decode cL_isOrder 200 = .ok (.iinc 6 1, 3) := by decide +kernel
theorem dL_isOrder_203 : decode cL_isOrder 203 = .ok (.goto (-49), 3) := by decide +kernel
theorem dL_isOrder_206 : decode cL_isOrder 206 = .ok (.iload 5, 2) := by decide +kernel
theorem dL_isOrder_208 : decode cL_isOrder 208 = .ok (.ireturn, 1) := by decide +kernel
