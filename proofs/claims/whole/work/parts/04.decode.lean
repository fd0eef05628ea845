theorem dX0_init_0 : decode cX0_init 0 = .ok (.aload_n 0, 1) := by decide +kernel
theorem dX0_init_1 : decode cX0_init 1 = .ok (.invokespecial 3, 3) := by decide +kernel
theorem dX0_init_4 : decode cX0_init 4 = .ok (.aload_n 0, 1) := by decide +kernel
theorem dX0_init_5 : decode cX0_init 5 = .ok (.sipush 720, 3) := by decide +kernel
theorem dX0_init_8 : decode cX0_init 8 = .ok (.newarray .boolean, 2) := by decide +kernel
theorem dX0_init_10 : decode cX0_init 10 = .ok (.putfield 9, 3) := by decide +kernel
theorem dX0_init_13 : decode cX0_init 13 = .ok (.aload_n 0, 1) := by decide +kernel
theorem dX0_init_14 : decode cX0_init 14 = .ok (.sipush 720, 3) := by decide +kernel
theorem dX0_init_17 : decode cX0_init 17 = .ok (.newarray .int, 2) := by decide +kernel
theorem dX0_init_19 : decode cX0_init 19 = .ok (.putfield 15, 3) := by decide +kernel
theorem dX0_init_22 : decode cX0_init 22 = .ok (.aload_n 0, 1) := by decide +kernel
theorem dX0_init_23 : decode cX0_init 23 = .ok (.sipush 720, 3) := by decide +kernel
theorem dX0_init_26 : decode cX0_init 26 = .ok (.newarray .int, 2) := by decide +kernel
theorem dX0_init_28 : decode cX0_init 28 = .ok (.putfield 19, 3) := by decide +kernel
theorem dX0_init_31 : decode cX0_init 31 = .ok (.iconst 0, 1) := by decide +kernel
theorem dX0_init_32 : decode cX0_init 32 = .ok (.istore_n 1, 1) := by decide +kernel
theorem dX0_init_33 : decode cX0_init 33 = .ok (.iload_n 1, 1) := by decide +kernel
theorem dX0_init_34 : decode cX0_init 34 = .ok (.sipush 720, 3) := by decide +kernel
theorem dX0_init_37 : decode cX0_init 37 = .ok (.if_icmp .ge 14, 3) := by decide +kernel
theorem dX0_init_40 : decode cX0_init 40 = .ok (.aload_n 0, 1) := by decide +kernel
theorem dX0_init_41 : decode cX0_init 41 = .ok (.iload_n 1, 1) := by decide +kernel
theorem dX0_init_42 : decode cX0_init 42 = .ok (.invokevirtual 22, 3) := by decide +kernel
theorem dX0_init_45 : decode cX0_init 45 = .ok (.iinc 1 30, 3) := by decide +kernel
theorem dX0_init_48 : decode cX0_init 48 = .ok (.goto (-15), 3) := by decide +kernel
theorem dX0_init_51 : decode cX0_init 51 = .ok (.return_, 1) := by decide +kernel
theorem dX0_toggleHoliday_0 : decode cX0_toggleHoliday 0 = .ok (.iload_n 1, 1) := by decide +kernel
theorem dX0_toggleHoliday_1 : decode cX0_toggleHoliday 1 = .ok (.invokestatic 26, 3) := by decide +kernel
theorem dX0_toggleHoliday_4 : decode cX0_toggleHoliday 4 = .ok (.ifCond .ne 5, 3) := by decide +kernel
theorem dX0_toggleHoliday_7 : decode cX0_toggleHoliday 7 = .ok (.iconst 0, 1) := by decide +kernel
theorem dX0_toggleHoliday_8 : decode cX0_toggleHoliday 8 = .ok (.ireturn, 1) := by decide +kernel
theorem dX0_toggleHoliday_9 : decode cX0_toggleHoliday 9 = .ok (.aload_n 0, 1) := by decide +kernel
theorem dX0_toggleHoliday_10 : decode cX0_toggleHoliday 10 = .ok (.getfield 9, 3) := by decide +kernel
theorem dX0_toggleHoliday_13 : decode cX0_toggleHoliday 13 = .ok (.iload_n 1, 1) := by decide +kernel
theorem dX0_toggleHoliday_14 : decode cX0_toggleHoliday 14 = .ok (.aload_n 0, 1) := by decide +kernel
theorem dX0_toggleHoliday_15 : decode cX0_toggleHoliday 15 = .ok (.getfield 9, 3) := by decide +kernel
theorem dX0_toggleHoliday_18 : decode cX0_toggleHoliday 18 = .ok (.iload_n 1, 1) := by decide +kernel
theorem dX0_toggleHoliday_19 : decode cX0_toggleHoliday 19 = .ok (.baload, 1) := by decide +kernel
theorem dX0_toggleHoliday_20 : decode cX0_toggleHoliday 20 = .ok (.ifCond .ne 7, 3) := by decide +kernel
theorem dX0_toggleHoliday_23 : decode cX0_toggleHoliday 23 = .ok (.iconst 1, 1) := by decide +kernel
theorem dX0_toggleHoliday_24 : decode cX0_toggleHoliday 24 = .ok (.goto 4, 3) := by decide +kernel
theorem dX0_toggleHoliday_27 : decode cX0_toggleHoliday 27 = .ok (.iconst 0, 1) := by decide +kernel
theorem dX0_toggleHoliday_28 : decode cX0_toggleHoliday 28 = .ok (.bastore, 1) := by decide +kernel
theorem dX0_toggleHoliday_29 : decode cX0_toggleHoliday 29 = .ok (.aload_n 0, 1) := by decide +kernel
theorem dX0_toggleHoliday_30 : decode cX0_toggleHoliday 30 = .ok (.iload_n 1, 1) := by decide +kernel
theorem dX0_toggleHoliday_31 : decode cX0_toggleHoliday 31 = .ok (.invokevirtual 22, 3) := by decide +kernel
theorem dX0_toggleHoliday_34 : decode cX0_toggleHoliday 34 = .ok (.aload_n 0, 1) := by decide +kernel
theorem dX0_toggleHoliday_35 : decode cX0_toggleHoliday 35 = .ok (.getfield 9, 3) := by decide +kernel
theorem dX0_toggleHoliday_38 : decode cX0_toggleHoliday 38 = .ok (.iload_n 1, 1) := by decide +kernel
theorem dX0_toggleHoliday_39 : decode cX0_toggleHoliday 39 = .ok (.baload, 1) := by decide +kernel
theorem dX0_toggleHoliday_40 : decode cX0_toggleHoliday 40 = .ok (.ireturn, 1) := by decide +kernel
theorem dX0_works_0 : decode cX0_works 0 = .ok (.iload_n 1, 1) := by decide +kernel
theorem dX0_works_1 : decode cX0_works 1 = .ok (.invokestatic 26, 3) := by decide +kernel
theorem dX0_works_4 : decode cX0_works 4 = .ok (.ifCond .eq 24, 3) := by decide +kernel
theorem dX0_works_7 : decode cX0_works 7 = .ok (.iload_n 1, 1) := by decide +kernel
theorem dX0_works_8 : decode cX0_works 8 = .ok (.bipush 7, 2) := by decide +kernel
theorem dX0_works_10 : decode cX0_works 10 = .ok (.irem, 1) := by decide +kernel
theorem dX0_works_11 : decode cX0_works 11 = .ok (.iconst 5, 1) := by decide +kernel
theorem dX0_works_12 : decode cX0_works 12 = .ok (.if_icmp .ge 16, 3) := by decide +kernel
theorem dX0_works_15 : decode cX0_works 15 = .ok (.aload_n 0, 1) := by decide +kernel
theorem dX0_works_16 : decode cX0_works 16 = .ok (.getfield 9, 3) := by decide +kernel
theorem dX0_works_19 : decode cX0_works 19 = .ok (.iload_n 1, 1) := by decide +kernel
theorem dX0_works_20 : decode cX0_works 20 = .ok (.baload, 1) := by decide +kernel
theorem dX0_works_21 : decode cX0_works 21 = .ok (.ifCond .ne 7, 3) := by decide +kernel
theorem dX0_works_24 : decode cX0_works 24 = .ok (.iconst 1, 1) := by decide +kernel
theorem dX0_works_25 : decode cX0_works 25 = .ok (.goto 4, 3) := by decide +kernel
theorem dX0_works_28 : decode cX0_works 28 = .ok (.iconst 0, 1) := by decide +kernel
theorem dX0_works_29 : decode cX0_works 29 = .ok (.ireturn, 1) := by decide +kernel
theorem dX0_numberFromStart_0 : decode cX0_numberFromStart 0 = .ok (.iload_n 1, 1) := by decide +kernel
theorem dX0_numberFromStart_1 : decode cX0_numberFromStart 1 = .ok (.invokestatic 26, 3) := by decide +kernel
theorem dX0_numberFromStart_4 : decode cX0_numberFromStart 4 = .ok (.ifCond .eq 12, 3) := by decide +kernel
theorem dX0_numberFromStart_7 : decode cX0_numberFromStart 7 = .ok (.aload_n 0, 1) := by decide +kernel
theorem dX0_numberFromStart_8 : decode cX0_numberFromStart 8 = .ok (.getfield 15, 3) := by decide +kernel
theorem dX0_numberFromStart_11 : decode cX0_numberFromStart 11 = .ok (.iload_n 1, 1) := by decide +kernel
theorem dX0_numberFromStart_12 : decode cX0_numberFromStart 12 = .ok (.iaload, 1) := by decide +kernel
theorem dX0_numberFromStart_13 : decode cX0_numberFromStart 13 = .ok (.goto 4, 3) := by decide +kernel
theorem dX0_numberFromStart_16 : decode cX0_numberFromStart 16 = .ok (.iconst 0, 1) := by decide +kernel
theorem dX0_numberFromStart_17 : decode cX0_numberFromStart 17 = .ok (.ireturn, 1) := by decide +kernel
theorem dX0_numberFromEnd_0 : decode cX0_numberFromEnd 0 = .ok (.iload_n 1, 1) := by decide +kernel
theorem dX0_numberFromEnd_1 : decode cX0_numberFromEnd 1 = .ok (.invokestatic 26, 3) := by decide +kernel
theorem dX0_numberFromEnd_4 : decode cX0_numberFromEnd 4 = .ok (.ifCond .eq 12, 3) := by decide +kernel
theorem dX0_numberFromEnd_7 : decode cX0_numberFromEnd 7 = .ok (.aload_n 0, 1) := by decide +kernel
theorem dX0_numberFromEnd_8 : decode cX0_numberFromEnd 8 = .ok (.getfield 19, 3) := by decide +kernel
theorem dX0_numberFromEnd_11 : decode cX0_numberFromEnd 11 = .ok (.iload_n 1, 1) := by decide +kernel
theorem dX0_numberFromEnd_12 : decode cX0_numberFromEnd 12 = .ok (.iaload, 1) := by decide +kernel
theorem dX0_numberFromEnd_13 : decode cX0_numberFromEnd 13 = .ok (.goto 4, 3) := by decide +kernel
theorem dX0_numberFromEnd_16 : decode cX0_numberFromEnd 16 = .ok (.iconst 0, 1) := by decide +kernel
theorem dX0_numberFromEnd_17 : decode cX0_numberFromEnd 17 = .ok (.ireturn, 1) := by decide +kernel
theorem dX0_numberMonthOf_0 : decode cX0_numberMonthOf 0 = .ok (.iload_n 1, 1) := by decide +kernel
theorem dX0_numberMonthOf_1 : decode cX0_numberMonthOf 1 = .ok (.iload_n 1, 1) := by decide +kernel
theorem dX0_numberMonthOf_2 : decode cX0_numberMonthOf 2 = .ok (.bipush 30, 2) := by decide +kernel
theorem dX0_numberMonthOf_4 : decode cX0_numberMonthOf 4 = .ok (.irem, 1) := by decide +kernel
theorem dX0_numberMonthOf_5 : decode cX0_numberMonthOf 5 = .ok (.isub, 1) := by decide +kernel
theorem dX0_numberMonthOf_6 : decode cX0_numberMonthOf 6 = .ok (.istore_n 2, 1) := by decide +kernel
theorem dX0_numberMonthOf_7 : decode cX0_numberMonthOf 7 = .ok (.iload_n 2, 1) := by decide +kernel
theorem dX0_numberMonthOf_8 : decode cX0_numberMonthOf 8 = .ok (.bipush 30, 2) := by decide +kernel
theorem dX0_numberMonthOf_10 : decode cX0_numberMonthOf 10 = .ok (.iadd, 1) := by decide +kernel
theorem dX0_numberMonthOf_11 : decode cX0_numberMonthOf 11 = .ok (.iconst 1, 1) := by decide +kernel
theorem dX0_numberMonthOf_12 : decode cX0_numberMonthOf 12 = .ok (.isub, 1) := by decide +kernel
theorem dX0_numberMonthOf_13 : decode cX0_numberMonthOf 13 = .ok (.istore_n 3, 1) := by decide +kernel
theorem dX0_numberMonthOf_14 : decode cX0_numberMonthOf 14 = .ok (.iconst 0, 1) := by decide +kernel
theorem dX0_numberMonthOf_15 : decode cX0_numberMonthOf 15 = .ok (.istore 4, 2) := by decide +kernel
theorem dX0_numberMonthOf_17 : decode cX0_numberMonthOf 17 = .ok (.iload_n 2, 1) := by decide +kernel
theorem dX0_numberMonthOf_18 : decode cX0_numberMonthOf 18 = .ok (.istore 5, 2) := by decide +kernel
theorem dX0_numberMonthOf_20 : decode cX0_numberMonthOf 20 = .ok (.iload 5, 2) := by decide +kernel
theorem dX0_numberMonthOf_22 : decode cX0_numberMonthOf 22 = .ok (.iload_n 3, 1) := by decide +kernel
theorem dX0_numberMonthOf_23 : decode cX0_numberMonthOf 23 = .ok (.if_icmp .gt 51, 3) := by decide +kernel
theorem dX0_numberMonthOf_26 : decode cX0_numberMonthOf 26 = .ok (.iload 5, 2) := by decide +kernel
theorem dX0_numberMonthOf_28 : decode cX0_numberMonthOf 28 = .ok (.invokestatic 26, 3) := by decide +kernel
theorem dX0_numberMonthOf_31 : decode cX0_numberMonthOf 31 = .ok (.ifCond .eq 43, 3) := by decide +kernel
theorem dX0_numberMonthOf_34 : decode cX0_numberMonthOf 34 = .ok (.aload_n 0, 1) := by decide +kernel
theorem dX0_numberMonthOf_35 : decode cX0_numberMonthOf 35 = .ok (.iload 5, 2) := by decide +kernel
theorem dX0_numberMonthOf_37 : decode cX0_numberMonthOf 37 = .ok (.invokevirtual 30, 3) := by decide +kernel
theorem dX0_numberMonthOf_40 : decode cX0_numberMonthOf 40 = .ok (.ifCond .eq 6, 3) := by decide +kernel
theorem dX0_numberMonthOf_43 : decode cX0_numberMonthOf 43 = .ok (.iinc 4 1, 3) := by decide +kernel
theorem dX0_numberMonthOf_46 : decode cX0_numberMonthOf 46 = .ok (.aload_n 0, 1) := by decide +kernel
theorem dX0_numberMonthOf_47 : decode cX0_numberMonthOf 47 = .ok (.getfield 15, 3) := by decide +kernel
theorem dX0_numberMonthOf_50 : decode cX0_numberMonthOf 50 = .ok (.iload 5, 2) := by decide +kernel
theorem dX0_numberMonthOf_52 : decode cX0_numberMonthOf 52 = .ok (.aload_n 0, 1) := by decide +kernel
theorem dX0_numberMonthOf_53 : decode cX0_numberMonthOf 53 = .ok (.iload 5, 2) := by decide +kernel
theorem dX0_numberMonthOf_55 : decode cX0_numberMonthOf 55 = .ok (.invokevirtual 30, 3) := by decide +kernel
theorem dX0_numberMonthOf_58 : decode cX0_numberMonthOf 58 = .ok (.ifCond .eq 8, 3) := by decide +kernel
theorem dX0_numberMonthOf_61 : decode cX0_numberMonthOf 61 = .ok (.iload 4, 2) := by decide +kernel
theorem dX0_numberMonthOf_63 : decode cX0_numberMonthOf 63 = .ok (.goto 4, 3) := by decide +kernel
theorem dX0_numberMonthOf_66 : decode cX0_numberMonthOf 66 = .ok (.iconst 0, 1) := by decide +kernel
theorem dX0_numberMonthOf_67 : decode cX0_numberMonthOf 67 = .ok (.iastore, 1) := by decide +kernel
theorem dX0_numberMonthOf_68 : decode cX0_numberMonthOf 68 = .ok (.iinc 5 1, 3) := by decide +kernel
theorem dX0_numberMonthOf_71 : decode cX0_numberMonthOf 71 = .ok (.goto (-51), 3) := by decide +kernel
theorem dX0_numberMonthOf_74 : decode cX0_numberMonthOf 74 = .ok (.iload_n 2, 1) := by decide +kernel
theorem dX0_numberMonthOf_75 : decode cX0_numberMonthOf 75 = .ok (.istore 5, 2) := by decide +kernel
theorem dX0_numberMonthOf_77 : decode cX0_numberMonthOf 77 = .ok (.iload 5, 2) := by decide +kernel
theorem dX0_numberMonthOf_79 : decode cX0_numberMonthOf 79 = .ok (.iload_n 3, 1) := by decide +kernel
theorem dX0_numberMonthOf_80 : decode cX0_numberMonthOf 80 = .ok (.if_icmp .gt 49, 3) := by decide +kernel
theorem dX0_numberMonthOf_83 : decode cX0_numberMonthOf 83 = .ok (.iload 5, 2) := by decide +kernel
theorem dX0_numberMonthOf_85 : decode cX0_numberMonthOf 85 = .ok (.invokestatic 26, 3) := by decide +kernel
theorem dX0_numberMonthOf_88 : decode cX0_numberMonthOf 88 = .ok (.ifCond .eq 41, 3) := by decide +kernel
theorem dX0_numberMonthOf_91 : decode cX0_numberMonthOf 91 = .ok (.aload_n 0, 1) := by decide +kernel
theorem dX0_numberMonthOf_92 : decode cX0_numberMonthOf 92 = .ok (.getfield 19, 3) := by decide +kernel
theorem dX0_numberMonthOf_95 : decode cX0_numberMonthOf 95 = .ok (.iload 5, 2) := by decide +kernel
theorem dX0_numberMonthOf_97 : decode cX0_numberMonthOf 97 = .ok (.aload_n 0, 1) := by decide +kernel
theorem dX0_numberMonthOf_98 : decode cX0_numberMonthOf 98 = .ok (.iload 5, 2) := by decide +kernel
theorem dX0_numberMonthOf_100 : decode cX0_numberMonthOf 100 = .ok (.invokevirtual 30, 3) := by decide +kernel
theorem dX0_numberMonthOf_103 : decode cX0_numberMonthOf 103 = .ok (.ifCond .eq 18, 3) := by decide +kernel
theorem dX0_numberMonthOf_106 : decode cX0_numberMonthOf 106 = .ok (.iload 4, 2) := by decide +kernel
theorem dX0_numberMonthOf_108 : decode cX0_numberMonthOf 108 = .ok (.iconst 1, 1) := by decide +kernel
theorem dX0_numberMonthOf_109 : decode cX0_numberMonthOf 109 = .ok (.iadd, 1) := by decide +kernel
theorem dX0_numberMonthOf_110 : decode cX0_numberMonthOf 110 = .ok (.aload_n 0, 1) := by decide +kernel
theorem dX0_numberMonthOf_111 : decode cX0_numberMonthOf 111 = .ok (.getfield 15, 3) := by decide +kernel
theorem dX0_numberMonthOf_114 : decode cX0_numberMonthOf 114 = .ok (.iload 5, 2) := by decide +kernel
theorem dX0_numberMonthOf_116 : decode cX0_numberMonthOf 116 = .ok (.iaload, 1) := by decide +kernel
theorem dX0_numberMonthOf_117 : decode cX0_numberMonthOf 117 = .ok (.isub, 1) := by decide +kernel
theorem dX0_numberMonthOf_118 : decode cX0_numberMonthOf 118 = .ok (.goto 4, 3) := by decide +kernel
theorem dX0_numberMonthOf_121 : decode cX0_numberMonthOf 121 = .ok (.iconst 0, 1) := by decide +kernel
theorem dX0_numberMonthOf_122 : decode cX0_numberMonthOf 122 = .ok (.iastore, 1) := by decide +kernel
theorem dX0_numberMonthOf_123 : decode cX0_numberMonthOf 123 = .ok (.iinc 5 1, 3) := by decide +kernel
theorem dX0_numberMonthOf_126 : decode cX0_numberMonthOf 126 = .ok (.goto (-49), 3) := by decide +kernel
theorem dX0_numberMonthOf_129 : decode cX0_numberMonthOf 129 = .ok (.return_, 1) := by decide +kernel
theorem dX1_init_0 : decode cX1_init 0 = .ok (.aload_n 0, 1) := by decide +kernel
theorem dX1_init_1 : decode cX1_init 1 = .ok (.invokespecial 3, 3) := by decide +kernel
theorem dX1_init_4 : decode cX1_init 4 = .ok (.aload_n 0, 1) := by decide +kernel
theorem dX1_init_5 : decode cX1_init 5 = .ok (.iconst 0, 1) := by decide +kernel
theorem dX1_init_6 : decode cX1_init 6 = .ok (.putfield 9, 3) := by decide +kernel
theorem dX1_init_9 : decode cX1_init 9 = .ok (.aload_n 0, 1) := by decide +kernel
theorem dX1_init_10 : decode cX1_init 10 = .ok (.iconst 0, 1) := by decide +kernel
theorem dX1_init_11 : decode cX1_init 11 = .ok (.putfield 15, 3) := by decide +kernel
theorem dX1_init_14 : decode cX1_init 14 = .ok (.aload_n 0, 1) := by decide +kernel
theorem dX1_init_15 : decode cX1_init 15 = .ok (.iconst 0, 1) := by decide +kernel
theorem dX1_init_16 : decode cX1_init 16 = .ok (.putfield 18, 3) := by decide +kernel
theorem dX1_init_19 : decode cX1_init 19 = .ok (.aload_n 0, 1) := by decide +kernel
theorem dX1_init_20 : decode cX1_init 20 = .ok (.iconst (-1), 1) := by decide +kernel
theorem dX1_init_21 : decode cX1_init 21 = .ok (.putfield 21, 3) := by decide +kernel
theorem dX1_init_24 : decode cX1_init 24 = .ok (.aload_n 0, 1) := by decide +kernel
theorem dX1_init_25 : decode cX1_init 25 = .ok (.iconst (-1), 1) := by decide +kernel
theorem dX1_init_26 : decode cX1_init 26 = .ok (.putfield 24, 3) := by decide +kernel
theorem dX1_init_29 : decode cX1_init 29 = .ok (.aload_n 0, 1) := by decide +kernel
theorem dX1_init_30 : decode cX1_init 30 = .ok (.sipush 720, 3) := by decide +kernel
theorem dX1_init_33 : decode cX1_init 33 = .ok (.newarray .boolean, 2) := by decide +kernel
theorem dX1_init_35 : decode cX1_init 35 = .ok (.putfield 27, 3) := by decide +kernel
theorem dX1_init_38 : decode cX1_init 38 = .ok (.aload_n 0, 1) := by decide +kernel
theorem dX1_init_39 : decode cX1_init 39 = .ok (.iload_n 1, 1) := by decide +kernel
theorem dX1_init_40 : decode cX1_init 40 = .ok (.putfield 31, 3) := by decide +kernel
theorem dX1_init_43 : decode cX1_init 43 = .ok (.aload_n 0, 1) := by decide +kernel
theorem dX1_init_44 : decode cX1_init 44 = .ok (.iload_n 2, 1) := by decide +kernel
theorem dX1_init_45 : decode cX1_init 45 = .ok (.putfield 34, 3) := by decide +kernel
theorem dX1_init_48 : decode cX1_init 48 = .ok (.aload_n 0, 1) := by decide +kernel
theorem dX1_init_49 : decode cX1_init 49 = .ok (.iload_n 3, 1) := by decide +kernel
theorem dX1_init_50 : decode cX1_init 50 = .ok (.putfield 37, 3) := by decide +kernel
theorem dX1_init_53 : decode cX1_init 53 = .ok (.aload_n 0, 1) := by decide +kernel
theorem dX1_init_54 : decode cX1_init 54 = .ok (.iload 4, 2) := by decide +kernel
theorem dX1_init_56 : decode cX1_init 56 = .ok (.putfield 40, 3) := by decide +kernel
theorem dX1_init_59 : decode cX1_init 59 = .ok (.aload_n 0, 1) := by decide +kernel
theorem dX1_init_60 : decode cX1_init 60 = .ok (.iload 5, 2) := by decide +kernel
theorem dX1_init_62 : decode cX1_init 62 = .ok (.putfield 43, 3) := by decide +kernel
theorem dX1_init_65 : decode cX1_init 65 = .ok (.aload_n 0, 1) := by decide +kernel
theorem dX1_init_66 : decode cX1_init 66 = .ok (.iload 6, 2) := by decide +kernel
theorem dX1_init_68 : decode cX1_init 68 = .ok (.putfield 46, 3) := by decide +kernel
theorem dX1_init_71 : decode cX1_init 71 = .ok (.return_, 1) := by decide +kernel
theorem dX1_requires_0 : decode cX1_requires 0 = .ok (.aload_n 0, 1) := by decide +kernel
theorem dX1_requires_1 : decode cX1_requires 1 = .ok (.getfield 9, 3) := by decide +kernel
theorem dX1_requires_4 : decode cX1_requires 4 = .ok (.iconst 1, 1) := by decide +kernel
theorem dX1_requires_5 : decode cX1_requires 5 = .ok (.iload_n 1, 1) := by decide +kernel
theorem dX1_requires_6 : decode cX1_requires 6 = .ok (.ishl, 1) := by decide +kernel
theorem dX1_requires_7 : decode cX1_requires 7 = .ok (.iand, 1) := by decide +kernel
theorem dX1_requires_8 : decode cX1_requires 8 = .ok (.ifCond .eq 7, 3) := by decide +kernel
theorem dX1_requires_11 : decode cX1_requires 11 = .ok (.iconst 1, 1) := by decide +kernel
theorem dX1_requires_12 : decode cX1_requires 12 = .ok (.goto 4, 3) := by decide +kernel
theorem dX1_requires_15 : decode cX1_requires 15 = .ok (.iconst 0, 1) := by decide +kernel
theorem dX1_requires_16 : decode cX1_requires 16 = .ok (.ireturn, 1) := by decide +kernel
theorem dX1_needs_0 : decode cX1_needs 0 = .ok (.aload_n 0, 1) := by decide +kernel
theorem dX1_needs_1 : decode cX1_needs 1 = .ok (.getfield 15, 3) := by decide +kernel
theorem dX1_needs_4 : decode cX1_needs 4 = .ok (.iconst 1, 1) := by decide +kernel
theorem dX1_needs_5 : decode cX1_needs 5 = .ok (.iload_n 1, 1) := by decide +kernel
theorem dX1_needs_6 : decode cX1_needs 6 = .ok (.ishl, 1) := by decide +kernel
theorem dX1_needs_7 : decode cX1_needs 7 = .ok (.iand, 1) := by decide +kernel
theorem dX1_needs_8 : decode cX1_needs 8 = .ok (.ifCond .eq 7, 3) := by decide +kernel
theorem dX1_needs_11 : decode cX1_needs 11 = .ok (.iconst 1, 1) := by decide +kernel
theorem dX1_needs_12 : decode cX1_needs 12 = .ok (.goto 4, 3) := by decide +kernel
theorem dX1_needs_15 : decode cX1_needs 15 = .ok (.iconst 0, 1) := by decide +kernel
theorem dX1_needs_16 : decode cX1_needs 16 = .ok (.ireturn, 1) := by decide +kernel
theorem dX1_layDueDays_0 : decode cX1_layDueDays 0 = .ok (.iconst 0, 1) := by decide +kernel
theorem dX1_layDueDays_1 : decode cX1_layDueDays 1 = .ok (.istore_n 2, 1) := by decide +kernel
theorem dX1_layDueDays_2 : decode cX1_layDueDays 2 = .ok (.iconst 0, 1) := by decide +kernel
theorem dX1_layDueDays_3 : decode cX1_layDueDays 3 = .ok (.istore_n 3, 1) := by decide +kernel
theorem dX1_layDueDays_4 : decode cX1_layDueDays 4 = .ok (.iload_n 3, 1) := by decide +kernel
theorem dX1_layDueDays_5 : decode cX1_layDueDays 5 = .ok (.sipush 720, 3) := by decide +kernel
theorem dX1_layDueDays_8 : decode cX1_layDueDays 8 = .ok (.if_icmp .ge 92, 3) := by decide +kernel
theorem dX1_layDueDays_11 : decode cX1_layDueDays 11 = .ok (.aload_n 0, 1) := by decide +kernel
theorem dX1_layDueDays_12 : decode cX1_layDueDays 12 = .ok (.getfield 37, 3) := by decide +kernel
theorem dX1_layDueDays_15 : decode cX1_layDueDays 15 = .ok (.iconst 1, 1) := by decide +kernel
theorem dX1_layDueDays_16 : decode cX1_layDueDays 16 = .ok (.if_icmp .ne 11, 3) := by decide +kernel
theorem dX1_layDueDays_19 : decode cX1_layDueDays 19 = .ok (.sipush 719, 3) := by decide +kernel
theorem dX1_layDueDays_22 : decode cX1_layDueDays 22 = .ok (.iload_n 3, 1) := by decide +kernel
theorem dX1_layDueDays_23 : decode cX1_layDueDays 23 = .ok (.isub, 1) := by decide +kernel
theorem dX1_layDueDays_24 : decode cX1_layDueDays 24 = .ok (.goto 4, 3) := by decide +kernel
theorem dX1_layDueDays_27 : decode cX1_layDueDays 27 = .ok (.iload_n 3, 1) := by decide +kernel
theorem dX1_layDueDays_28 : decode cX1_layDueDays 28 = .ok (.istore 4, 2) := by decide +kernel
theorem dX1_layDueDays_30 : decode cX1_layDueDays 30 = .ok (.aload_n 1, 1) := by decide +kernel
theorem dX1_layDueDays_31 : decode cX1_layDueDays 31 = .ok (.iload 4, 2) := by decide +kernel
theorem dX1_layDueDays_33 : decode cX1_layDueDays 33 = .ok (.invokevirtual 49, 3) := by decide +kernel
theorem dX1_layDueDays_36 : decode cX1_layDueDays 36 = .ok (.istore 5, 2) := by decide +kernel
theorem dX1_layDueDays_38 : decode cX1_layDueDays 38 = .ok (.iload_n 2, 1) := by decide +kernel
theorem dX1_layDueDays_39 : decode cX1_layDueDays 39 = .ok (.ifCond .ne 13, 3) := by decide +kernel
theorem dX1_layDueDays_42 : decode cX1_layDueDays 42 = .ok (.aload_n 0, 1) := by decide +kernel
theorem dX1_layDueDays_43 : decode cX1_layDueDays 43 = .ok (.iload 4, 2) := by decide +kernel
theorem dX1_layDueDays_45 : decode cX1_layDueDays 45 = .ok (.aload_n 1, 1) := by decide +kernel
theorem dX1_layDueDays_46 : decode cX1_layDueDays 46 = .ok (.invokevirtual 55, 3) := by decide +kernel
theorem dX1_layDueDays_49 : decode cX1_layDueDays 49 = .ok (.ifCond .eq 7, 3) := by decide +kernel
theorem dX1_layDueDays_52 : decode cX1_layDueDays 52 = .ok (.iconst 1, 1) := by decide +kernel
theorem dX1_layDueDays_53 : decode cX1_layDueDays 53 = .ok (.goto 4, 3) := by decide +kernel
theorem dX1_layDueDays_56 : decode cX1_layDueDays 56 = .ok (.iconst 0, 1) := by decide +kernel
theorem dX1_layDueDays_57 : decode cX1_layDueDays 57 = .ok (.istore_n 2, 1) := by decide +kernel
theorem dX1_layDueDays_58 : decode cX1_layDueDays 58 = .ok (.aload_n 0, 1) := by decide +kernel
theorem dX1_layDueDays_59 : decode cX1_layDueDays 59 = .ok (.getfield 27, 3) := by decide +kernel
theorem dX1_layDueDays_62 : decode cX1_layDueDays 62 = .ok (.iload 4, 2) := by decide +kernel
theorem dX1_layDueDays_64 : decode cX1_layDueDays 64 = .ok (.iload 5, 2) := by decide +kernel
theorem dX1_layDueDays_66 : decode cX1_layDueDays 66 = .ok (.ifCond .eq 11, 3) := by decide +kernel
theorem dX1_layDueDays_69 : decode cX1_layDueDays 69 = .ok (.iload_n 2, 1) := by decide +kernel
theorem dX1_layDueDays_70 : decode cX1_layDueDays 70 = .ok (.ifCond .eq 7, 3) := by decide +kernel
theorem dX1_layDueDays_73 : decode cX1_layDueDays 73 = .ok (.iconst 1, 1) := by decide +kernel
theorem dX1_layDueDays_74 : decode cX1_layDueDays 74 = .ok (.goto 4, 3) := by decide +kernel
theorem dX1_layDueDays_77 : decode cX1_layDueDays 77 = .ok (.iconst 0, 1) := by decide +kernel
theorem dX1_layDueDays_78 : decode cX1_layDueDays 78 = .ok (.bastore, 1) := by decide +kernel
theorem dX1_layDueDays_79 : decode cX1_layDueDays 79 = .ok (.iload 5, 2) := by decide +kernel
theorem dX1_layDueDays_81 : decode cX1_layDueDays 81 = .ok (.ifCond .ne 11, 3) := by decide +kernel
theorem dX1_layDueDays_84 : decode cX1_layDueDays 84 = .ok (.aload_n 0, 1) := by decide +kernel
theorem dX1_layDueDays_85 : decode cX1_layDueDays 85 = .ok (.getfield 37, 3) := by decide +kernel
theorem dX1_layDueDays_88 : decode cX1_layDueDays 88 = .ok (.iconst 2, 1) := by decide +kernel
theorem dX1_layDueDays_89 : decode cX1_layDueDays 89 = .ok (.if_icmp .ne 5, 3) := by decide +kernel
theorem dX1_layDueDays_92 : decode cX1_layDueDays 92 = .ok (.iconst 0, 1) := by decide +kernel
theorem dX1_layDueDays_93 : decode cX1_layDueDays 93 = .ok (.istore_n 2, 1) := by decide +kernel
theorem dX1_layDueDays_94 : decode cX1_layDueDays 94 = .ok (.iinc 3 1, 3) := by decide +kernel
theorem dX1_layDueDays_97 : decode cX1_layDueDays 97 = .ok (.goto (-93), 3) := by decide +kernel
theorem dX1_layDueDays_100 : decode cX1_layDueDays 100 = .ok (.return_, 1) := by decide +kernel
theorem dX1_isDueOn_0 : decode cX1_isDueOn 0 = .ok (.iload_n 1, 1) := by decide +kernel
theorem dX1_isDueOn_1 : decode cX1_isDueOn 1 = .ok (.invokestatic 59, 3) := by decide +kernel
theorem dX1_isDueOn_4 : decode cX1_isDueOn 4 = .ok (.ifCond .eq 16, 3) := by decide +kernel
theorem dX1_isDueOn_7 : decode cX1_isDueOn 7 = .ok (.aload_n 0, 1) := by decide +kernel
theorem dX1_isDueOn_8 : decode cX1_isDueOn 8 = .ok (.getfield 27, 3) := by decide +kernel
theorem dX1_isDueOn_11 : decode cX1_isDueOn 11 = .ok (.iload_n 1, 1) := by decide +kernel
theorem dX1_isDueOn_12 : decode cX1_isDueOn 12 = .ok (.baload, 1) := by decide +kernel
theorem dX1_isDueOn_13 : decode cX1_isDueOn 13 = .ok (.ifCond .eq 7, 3) := by decide +kernel
theorem dX1_isDueOn_16 : decode cX1_isDueOn 16 = .ok (.iconst 1, 1) := by decide +kernel
theorem dX1_isDueOn_17 : decode cX1_isDueOn 17 = .ok (.goto 4, 3) := by decide +kernel
theorem dX1_isDueOn_20 : decode cX1_isDueOn 20 = .ok (.iconst 0, 1) := by decide +kernel
theorem dX1_isDueOn_21 : decode cX1_isDueOn 21 = .ok (.ireturn, 1) := by decide +kernel
theorem dX1_dayOfDuty_0 : decode cX1_dayOfDuty 0 = .ok (.iconst 0, 1) := by decide +kernel
theorem dX1_dayOfDuty_1 : decode cX1_dayOfDuty 1 = .ok (.istore_n 2, 1) := by decide +kernel
theorem dX1_dayOfDuty_2 : decode cX1_dayOfDuty 2 = .ok (.iconst 0, 1) := by decide +kernel
theorem dX1_dayOfDuty_3 : decode cX1_dayOfDuty 3 = .ok (.istore_n 3, 1) := by decide +kernel
theorem dX1_dayOfDuty_4 : decode cX1_dayOfDuty 4 = .ok (.iload_n 3, 1) := by decide +kernel
theorem dX1_dayOfDuty_5 : decode cX1_dayOfDuty 5 = .ok (.sipush 720, 3) := by decide +kernel
theorem dX1_dayOfDuty_8 : decode cX1_dayOfDuty 8 = .ok (.if_icmp .ge 28, 3) := by decide +kernel
theorem dX1_dayOfDuty_11 : decode cX1_dayOfDuty 11 = .ok (.aload_n 0, 1) := by decide +kernel
theorem dX1_dayOfDuty_12 : decode cX1_dayOfDuty 12 = .ok (.getfield 27, 3) := by decide +kernel
theorem dX1_dayOfDuty_15 : decode cX1_dayOfDuty 15 = .ok (.iload_n 3, 1) := by decide +kernel
theorem dX1_dayOfDuty_16 : decode cX1_dayOfDuty 16 = .ok (.baload, 1) := by decide +kernel
theorem dX1_dayOfDuty_17 : decode cX1_dayOfDuty 17 = .ok (.ifCond .eq 13, 3) := by decide +kernel
theorem dX1_dayOfDuty_20 : decode cX1_dayOfDuty 20 = .ok (.iload_n 2, 1) := by decide +kernel
theorem dX1_dayOfDuty_21 : decode cX1_dayOfDuty 21 = .ok (.iload_n 1, 1) := by decide +kernel
theorem dX1_dayOfDuty_22 : decode cX1_dayOfDuty 22 = .ok (.if_icmp .ne 5, 3) := by decide +kernel
theorem dX1_dayOfDuty_25 : decode cX1_dayOfDuty 25 = .ok (.iload_n 3, 1) := by decide +kernel
theorem dX1_dayOfDuty_26 : decode cX1_dayOfDuty 26 = .ok (.ireturn, 1) := by decide +kernel
theorem dX1_dayOfDuty_27 : decode cX1_dayOfDuty 27 = .ok (.iinc 2 1, 3) := by decide +kernel
theorem dX1_dayOfDuty_30 : decode cX1_dayOfDuty 30 = .ok (.iinc 3 1, 3) := by decide +kernel
theorem dX1_dayOfDuty_33 : decode cX1_dayOfDuty 33 = .ok (.goto (-29), 3) := by decide +kernel
theorem dX1_dayOfDuty_36 : decode cX1_dayOfDuty 36 = .ok (.iconst (-1), 1) := by decide +kernel
theorem dX1_dayOfDuty_37 : decode cX1_dayOfDuty 37 = .ok (.ireturn, 1) := by decide +kernel
theorem dX1_countDueBefore_0 : decode cX1_countDueBefore 0 = .ok (.iconst 0, 1) := by decide +kernel
theorem dX1_countDueBefore_1 : decode cX1_countDueBefore 1 = .ok (.istore_n 2, 1) := by decide +kernel
theorem dX1_countDueBefore_2 : decode cX1_countDueBefore 2 = .ok (.iconst 0, 1) := by decide +kernel
theorem dX1_countDueBefore_3 : decode cX1_countDueBefore 3 = .ok (.istore_n 3, 1) := by decide +kernel
theorem dX1_countDueBefore_4 : decode cX1_countDueBefore 4 = .ok (.iload_n 3, 1) := by decide +kernel
theorem dX1_countDueBefore_5 : decode cX1_countDueBefore 5 = .ok (.iload_n 1, 1) := by decide +kernel
theorem dX1_countDueBefore_6 : decode cX1_countDueBefore 6 = .ok (.if_icmp .ge 20, 3) := by decide +kernel
theorem dX1_countDueBefore_9 : decode cX1_countDueBefore 9 = .ok (.aload_n 0, 1) := by decide +kernel
theorem dX1_countDueBefore_10 : decode cX1_countDueBefore 10 = .ok (.iload_n 3, 1) := by decide +kernel
theorem dX1_countDueBefore_11 : decode cX1_countDueBefore 11 = .ok (.invokevirtual 62, 3) := by decide +kernel
theorem dX1_countDueBefore_14 : decode cX1_countDueBefore 14 = .ok (.ifCond .eq 6, 3) := by decide +kernel
theorem dX1_countDueBefore_17 : decode cX1_countDueBefore 17 = .ok (.iinc 2 1, 3) := by decide +kernel
theorem dX1_countDueBefore_20 : decode cX1_countDueBefore 20 = .ok (.iinc 3 1, 3) := by decide +kernel
theorem dX1_countDueBefore_23 : decode cX1_countDueBefore 23 = .ok (.goto (-19), 3) := by decide +kernel
theorem dX1_countDueBefore_26 : decode cX1_countDueBefore 26 = .ok (.iload_n 2, 1) := by decide +kernel
theorem dX1_countDueBefore_27 : decode cX1_countDueBefore 27 = .ok (.ireturn, 1) := by decide +kernel
theorem dX1_firstDueFrom_0 : decode cX1_firstDueFrom 0 = .ok (.iload_n 1, 1) := by decide +kernel
theorem dX1_firstDueFrom_1 : decode cX1_firstDueFrom 1 = .ok (.istore_n 2, 1) := by decide +kernel
theorem dX1_firstDueFrom_2 : decode cX1_firstDueFrom 2 = .ok (.iload_n 2, 1) := by decide +kernel
theorem dX1_firstDueFrom_3 : decode cX1_firstDueFrom 3 = .ok (.sipush 720, 3) := by decide +kernel
theorem dX1_firstDueFrom_6 : decode cX1_firstDueFrom 6 = .ok (.if_icmp .ge 19, 3) := by decide +kernel
theorem dX1_firstDueFrom_9 : decode cX1_firstDueFrom 9 = .ok (.aload_n 0, 1) := by decide +kernel
theorem dX1_firstDueFrom_10 : decode cX1_firstDueFrom 10 = .ok (.iload_n 2, 1) := by decide +kernel
theorem dX1_firstDueFrom_11 : decode cX1_firstDueFrom 11 = .ok (.invokevirtual 62, 3) := by decide +kernel
theorem dX1_firstDueFrom_14 : decode cX1_firstDueFrom 14 = .ok (.ifCond .eq 5, 3) := by decide +kernel
theorem dX1_firstDueFrom_17 : decode cX1_firstDueFrom 17 = .ok (.iload_n 2, 1) := by decide +kernel
theorem dX1_firstDueFrom_18 : decode cX1_firstDueFrom 18 = .ok (.ireturn, 1) := by decide +kernel
theorem dX1_firstDueFrom_19 : decode cX1_firstDueFrom 19 = .ok (.iinc 2 1, 3) := by decide +kernel
theorem dX1_firstDueFrom_22 : decode cX1_firstDueFrom 22 = .ok (.goto (-20), 3) := by decide +kernel
theorem dX1_firstDueFrom_25 : decode cX1_firstDueFrom 25 = .ok (.iconst (-1), 1) := by decide +kernel
theorem dX1_firstDueFrom_26 : decode cX1_firstDueFrom 26 = .ok (.ireturn, 1) := by decide +kernel
theorem dX1_openDay_0 : decode cX1_openDay 0 = .ok (.aload_n 0, 1) := by decide +kernel
theorem dX1_openDay_1 : decode cX1_openDay 1 = .ok (.aload_n 0, 1) := by decide +kernel
theorem dX1_openDay_2 : decode cX1_openDay 2 = .ok (.getfield 18, 3) := by decide +kernel
theorem dX1_openDay_5 : decode cX1_openDay 5 = .ok (.invokevirtual 65, 3) := by decide +kernel
theorem dX1_openDay_8 : decode cX1_openDay 8 = .ok (.ireturn, 1) := by decide +kernel
theorem dX1_hasEvidence_0 : decode cX1_hasEvidence 0 = .ok (.aload_n 0, 1) := by decide +kernel
theorem dX1_hasEvidence_1 : decode cX1_hasEvidence 1 = .ok (.getfield 21, 3) := by decide +kernel
theorem dX1_hasEvidence_4 : decode cX1_hasEvidence 4 = .ok (.iconst (-1), 1) := by decide +kernel
theorem dX1_hasEvidence_5 : decode cX1_hasEvidence 5 = .ok (.if_icmp .eq 7, 3) := by decide +kernel
theorem dX1_hasEvidence_8 : decode cX1_hasEvidence 8 = .ok (.iconst 1, 1) := by decide +kernel
theorem dX1_hasEvidence_9 : decode cX1_hasEvidence 9 = .ok (.goto 4, 3) := by decide +kernel
theorem dX1_hasEvidence_12 : decode cX1_hasEvidence 12 = .ok (.iconst 0, 1) := by decide +kernel
theorem dX1_hasEvidence_13 : decode cX1_hasEvidence 13 = .ok (.ireturn, 1) := by decide +kernel
theorem dX1_evidenceUntil_0 : decode cX1_evidenceUntil 0 = .ok (.aload_n 0, 1) := by decide +kernel
theorem dX1_evidenceUntil_1 : decode cX1_evidenceUntil 1 = .ok (.getfield 21, 3) := by decide +kernel
theorem dX1_evidenceUntil_4 : decode cX1_evidenceUntil 4 = .ok (.aload_n 0, 1) := by decide +kernel
theorem dX1_evidenceUntil_5 : decode cX1_evidenceUntil 5 = .ok (.getfield 46, 3) := by decide +kernel
theorem dX1_evidenceUntil_8 : decode cX1_evidenceUntil 8 = .ok (.iadd, 1) := by decide +kernel
theorem dX1_evidenceUntil_9 : decode cX1_evidenceUntil 9 = .ok (.ireturn, 1) := by decide +kernel
theorem dX1_walkToDue_0 : decode cX1_walkToDue 0 = .ok (.iload_n 1, 1) := by decide +kernel
theorem dX1_walkToDue_1 : decode cX1_walkToDue 1 = .ok (.istore_n 3, 1) := by decide +kernel
theorem dX1_walkToDue_2 : decode cX1_walkToDue 2 = .ok (.iload_n 3, 1) := by decide +kernel
theorem dX1_walkToDue_3 : decode cX1_walkToDue 3 = .ok (.sipush 720, 3) := by decide +kernel
theorem dX1_walkToDue_6 : decode cX1_walkToDue 6 = .ok (.if_icmp .ge 37, 3) := by decide +kernel
theorem dX1_walkToDue_9 : decode cX1_walkToDue 9 = .ok (.aload_n 2, 1) := by decide +kernel
theorem dX1_walkToDue_10 : decode cX1_walkToDue 10 = .ok (.iload_n 3, 1) := by decide +kernel
theorem dX1_walkToDue_11 : decode cX1_walkToDue 11 = .ok (.invokevirtual 49, 3) := by decide +kernel
theorem dX1_walkToDue_14 : decode cX1_walkToDue 14 = .ok (.ifCond .eq 23, 3) := by decide +kernel
theorem dX1_walkToDue_17 : decode cX1_walkToDue 17 = .ok (.aload_n 0, 1) := by decide +kernel
theorem dX1_walkToDue_18 : decode cX1_walkToDue 18 = .ok (.iload_n 3, 1) := by decide +kernel
theorem dX1_walkToDue_19 : decode cX1_walkToDue 19 = .ok (.aload_n 2, 1) := by decide +kernel
theorem dX1_walkToDue_20 : decode cX1_walkToDue 20 = .ok (.invokevirtual 55, 3) := by decide +kernel
theorem dX1_walkToDue_23 : decode cX1_walkToDue 23 = .ok (.ifCond .ne 12, 3) := by decide +kernel
theorem dX1_walkToDue_26 : decode cX1_walkToDue 26 = .ok (.aload_n 0, 1) := by decide +kernel
theorem dX1_walkToDue_27 : decode cX1_walkToDue 27 = .ok (.iload_n 3, 1) := by decide +kernel
theorem dX1_walkToDue_28 : decode cX1_walkToDue 28 = .ok (.aload_n 2, 1) := by decide +kernel
theorem dX1_walkToDue_29 : decode cX1_walkToDue 29 = .ok (.invokevirtual 69, 3) := by decide +kernel
theorem dX1_walkToDue_32 : decode cX1_walkToDue 32 = .ok (.ifCond .eq 5, 3) := by decide +kernel
theorem dX1_walkToDue_35 : decode cX1_walkToDue 35 = .ok (.iload_n 3, 1) := by decide +kernel
theorem dX1_walkToDue_36 : decode cX1_walkToDue 36 = .ok (.ireturn, 1) := by decide +kernel
theorem dX1_walkToDue_37 : decode cX1_walkToDue 37 = .ok (.iinc 3 1, 3) := by decide +kernel
theorem dX1_walkToDue_40 : decode cX1_walkToDue 40 = .ok (.goto (-38), 3) := by decide +kernel
theorem dX1_walkToDue_43 : decode cX1_walkToDue 43 = .ok (.iconst (-1), 1) := by decide +kernel
theorem dX1_walkToDue_44 : decode cX1_walkToDue 44 = .ok (.ireturn, 1) := by decide +kernel
theorem dX1_isMovedTo_0 : decode cX1_isMovedTo 0 = .ok (.aload_n 0, 1) := by decide +kernel
theorem dX1_isMovedTo_1 : decode cX1_isMovedTo 1 = .ok (.getfield 37, 3) := by decide +kernel
theorem dX1_isMovedTo_4 : decode cX1_isMovedTo 4 = .ok (.iconst 2, 1) := by decide +kernel
theorem dX1_isMovedTo_5 : decode cX1_isMovedTo 5 = .ok (.if_icmp .ne 5, 3) := by decide +kernel
theorem dX1_isMovedTo_8 : decode cX1_isMovedTo 8 = .ok (.iconst 0, 1) := by decide +kernel
theorem dX1_isMovedTo_9 : decode cX1_isMovedTo 9 = .ok (.ireturn, 1) := by decide +kernel
theorem dX1_isMovedTo_10 : decode cX1_isMovedTo 10 = .ok (.aload_n 0, 1) := by decide +kernel
theorem dX1_isMovedTo_11 : decode cX1_isMovedTo 11 = .ok (.getfield 37, 3) := by decide +kernel
theorem dX1_isMovedTo_14 : decode cX1_isMovedTo 14 = .ok (.ifCond .ne 7, 3) := by decide +kernel
theorem dX1_isMovedTo_17 : decode cX1_isMovedTo 17 = .ok (.iconst (-1), 1) := by decide +kernel
theorem dX1_isMovedTo_18 : decode cX1_isMovedTo 18 = .ok (.goto 4, 3) := by decide +kernel
theorem dX1_isMovedTo_21 : decode cX1_isMovedTo 21 = .ok (.iconst 1, 1) := by decide +kernel
theorem dX1_isMovedTo_22 : decode cX1_isMovedTo 22 = .ok (.istore_n 3, 1) := by decide +kernel
theorem dX1_isMovedTo_23 : decode cX1_isMovedTo 23 = .ok (.iload_n 1, 1) := by decide +kernel
theorem dX1_isMovedTo_24 : decode cX1_isMovedTo 24 = .ok (.iload_n 3, 1) := by decide +kernel
theorem dX1_isMovedTo_25 : decode cX1_isMovedTo 25 = .ok (.iadd, 1) := by decide +kernel
theorem dX1_isMovedTo_26 : decode cX1_isMovedTo 26 = .ok (.istore 4, 2) := by decide +kernel
theorem dX1_isMovedTo_28 : decode cX1_isMovedTo 28 = .ok (.iload 4, 2) := by decide +kernel
theorem dX1_isMovedTo_30 : decode cX1_isMovedTo 30 = .ok (.ifCond .lt 41, 3) := by decide +kernel
theorem dX1_isMovedTo_33 : decode cX1_isMovedTo 33 = .ok (.iload 4, 2) := by decide +kernel
theorem dX1_isMovedTo_35 : decode cX1_isMovedTo 35 = .ok (.sipush 720, 3) := by decide +kernel
theorem dX1_isMovedTo_38 : decode cX1_isMovedTo 38 = .ok (.if_icmp .ge 33, 3) := by decide +kernel
theorem dX1_isMovedTo_41 : decode cX1_isMovedTo 41 = .ok (.aload_n 2, 1) := by decide +kernel
theorem dX1_isMovedTo_42 : decode cX1_isMovedTo 42 = .ok (.iload 4, 2) := by decide +kernel
theorem dX1_isMovedTo_44 : decode cX1_isMovedTo 44 = .ok (.invokevirtual 49, 3) := by decide +kernel
theorem dX1_isMovedTo_47 : decode cX1_isMovedTo 47 = .ok (.ifCond .ne 24, 3) := by decide +kernel
theorem dX1_isMovedTo_50 : decode cX1_isMovedTo 50 = .ok (.aload_n 0, 1) := by decide +kernel
theorem dX1_isMovedTo_51 : decode cX1_isMovedTo 51 = .ok (.iload 4, 2) := by decide +kernel
theorem dX1_isMovedTo_53 : decode cX1_isMovedTo 53 = .ok (.aload_n 2, 1) := by decide +kernel
theorem dX1_isMovedTo_54 : decode cX1_isMovedTo 54 = .ok (.invokevirtual 55, 3) := by decide +kernel
theorem dX1_isMovedTo_57 : decode cX1_isMovedTo 57 = .ok (.ifCond .eq 5, 3) := by decide +kernel
theorem dX1_isMovedTo_60 : decode cX1_isMovedTo 60 = .ok (.iconst 1, 1) := by decide +kernel
theorem dX1_isMovedTo_61 : decode cX1_isMovedTo 61 = .ok (.ireturn, 1) := by decide +kernel
theorem dX1_isMovedTo_62 : decode cX1_isMovedTo 62 = .ok (.iload 4, 2) := by decide +kernel
theorem dX1_isMovedTo_64 : decode cX1_isMovedTo 64 = .ok (.iload_n 3, 1) := by decide +kernel
theorem dX1_isMovedTo_65 : decode cX1_isMovedTo 65 = .ok (.iadd, 1) := by decide +kernel
theorem dX1_isMovedTo_66 : decode cX1_isMovedTo 66 = .ok (.istore 4, 2) := by decide +kernel
theorem dX1_isMovedTo_68 : decode cX1_isMovedTo 68 = .ok (.goto (-40), 3) := by decide +kernel
theorem dX1_isMovedTo_71 : decode cX1_isMovedTo 71 = .ok (.iconst 0, 1) := by decide +kernel
theorem dX1_isMovedTo_72 : decode cX1_isMovedTo 72 = .ok (.ireturn, 1) := by decide +kernel
theorem dX1_isNominal_0 : decode cX1_isNominal 0 = .ok (.iload_n 1, 1) := by decide +kernel
theorem dX1_isNominal_1 : decode cX1_isNominal 1 = .ok (.aload_n 0, 1) := by decide +kernel
theorem dX1_isNominal_2 : decode cX1_isNominal 2 = .ok (.getfield 40, 3) := by decide +kernel
theorem dX1_isNominal_5 : decode cX1_isNominal 5 = .ok (.if_icmp .ge 5, 3) := by decide +kernel
theorem dX1_isNominal_8 : decode cX1_isNominal 8 = .ok (.iconst 0, 1) := by decide +kernel
theorem dX1_isNominal_9 : decode cX1_isNominal 9 = .ok (.ireturn, 1) := by decide +kernel
theorem dX1_isNominal_10 : decode cX1_isNominal 10 = .ok (.aload_n 0, 1) := by decide +kernel
theorem dX1_isNominal_11 : decode cX1_isNominal 11 = .ok (.getfield 31, 3) := by decide +kernel
theorem dX1_isNominal_14 : decode cX1_isNominal 14 = .ok (.tableswitch 88 0 2 #[26, 53, 70], 26) := by decide +kernel
theorem dX1_isNominal_40 : decode cX1_isNominal 40 = .ok (.aload_n 0, 1) := by decide +kernel
theorem dX1_isNominal_41 : decode cX1_isNominal 41 = .ok (.getfield 34, 3) := by decide +kernel
theorem dX1_isNominal_44 : decode cX1_isNominal 44 = .ok (.ifCond .le 21, 3) := by decide +kernel
theorem dX1_isNominal_47 : decode cX1_isNominal 47 = .ok (.iload_n 1, 1) := by decide +kernel
theorem dX1_isNominal_48 : decode cX1_isNominal 48 = .ok (.aload_n 0, 1) := by decide +kernel
theorem dX1_isNominal_49 : decode cX1_isNominal 49 = .ok (.getfield 40, 3) := by decide +kernel
theorem dX1_isNominal_52 : decode cX1_isNominal 52 = .ok (.isub, 1) := by decide +kernel
theorem dX1_isNominal_53 : decode cX1_isNominal 53 = .ok (.aload_n 0, 1) := by decide +kernel
theorem dX1_isNominal_54 : decode cX1_isNominal 54 = .ok (.getfield 34, 3) := by decide +kernel
theorem dX1_isNominal_57 : decode cX1_isNominal 57 = .ok (.irem, 1) := by decide +kernel
theorem dX1_isNominal_58 : decode cX1_isNominal 58 = .ok (.ifCond .ne 7, 3) := by decide +kernel
theorem dX1_isNominal_61 : decode cX1_isNominal 61 = .ok (.iconst 1, 1) := by decide +kernel
theorem dX1_isNominal_62 : decode cX1_isNominal 62 = .ok (.goto 4, 3) := by decide +kernel
theorem dX1_isNominal_65 : decode cX1_isNominal 65 = .ok (.iconst 0, 1) := by decide +kernel
theorem dX1_isNominal_66 : decode cX1_isNominal 66 = .ok (.ireturn, 1) := by decide +kernel
theorem dX1_isNominal_67 : decode cX1_isNominal 67 = .ok (.iload_n 1, 1) := by decide +kernel
theorem dX1_isNominal_68 : decode cX1_isNominal 68 = .ok (.bipush 30, 2) := by decide +kernel
theorem dX1_isNominal_70 : decode cX1_isNominal 70 = .ok (.irem, 1) := by decide +kernel
theorem dX1_isNominal_71 : decode cX1_isNominal 71 = .ok (.aload_n 0, 1) := by decide +kernel
theorem dX1_isNominal_72 : decode cX1_isNominal 72 = .ok (.getfield 34, 3) := by decide +kernel
theorem dX1_isNominal_75 : decode cX1_isNominal 75 = .ok (.if_icmp .ne 7, 3) := by decide +kernel
theorem dX1_isNominal_78 : decode cX1_isNominal 78 = .ok (.iconst 1, 1) := by decide +kernel
theorem dX1_isNominal_79 : decode cX1_isNominal 79 = .ok (.goto 4, 3) := by decide +kernel
theorem dX1_isNominal_82 : decode cX1_isNominal 82 = .ok (.iconst 0, 1) := by decide +kernel
theorem dX1_isNominal_83 : decode cX1_isNominal 83 = .ok (.ireturn, 1) := by decide +kernel
theorem dX1_isNominal_84 : decode cX1_isNominal 84 = .ok (.aload_n 2, 1) := by decide +kernel
theorem dX1_isNominal_85 : decode cX1_isNominal 85 = .ok (.iload_n 1, 1) := by decide +kernel
theorem dX1_isNominal_86 : decode cX1_isNominal 86 = .ok (.invokevirtual 72, 3) := by decide +kernel
theorem dX1_isNominal_89 : decode cX1_isNominal 89 = .ok (.aload_n 0, 1) := by decide +kernel
theorem dX1_isNominal_90 : decode cX1_isNominal 90 = .ok (.getfield 34, 3) := by decide +kernel
theorem dX1_isNominal_93 : decode cX1_isNominal 93 = .ok (.if_icmp .ne 7, 3) := by decide +kernel
theorem dX1_isNominal_96 : decode cX1_isNominal 96 = .ok (.iconst 1, 1) := by decide +kernel
theorem dX1_isNominal_97 : decode cX1_isNominal 97 = .ok (.goto 4, 3) := by decide +kernel
theorem dX1_isNominal_100 : decode cX1_isNominal 100 = .ok (.iconst 0, 1) := by decide +kernel
theorem dX1_isNominal_101 : decode cX1_isNominal 101 = .ok (.ireturn, 1) := by decide +kernel
theorem dX1_isNominal_102 : decode cX1_isNominal 102 = .ok (.aload_n 2, 1) := by decide +kernel
theorem dX1_isNominal_103 : decode cX1_isNominal 103 = .ok (.iload_n 1, 1) := by decide +kernel
theorem dX1_isNominal_104 : decode cX1_isNominal 104 = .ok (.invokevirtual 75, 3) := by decide +kernel
theorem dX1_isNominal_107 : decode cX1_isNominal 107 = .ok (.aload_n 0, 1) := by decide +kernel
theorem dX1_isNominal_108 : decode cX1_isNominal 108 = .ok (.getfield 34, 3) := by decide +kernel
theorem dX1_isNominal_111 : decode cX1_isNominal 111 = .ok (.if_icmp .ne 7, 3) := by decide +kernel
theorem dX1_isNominal_114 : decode cX1_isNominal 114 = .ok (.iconst 1, 1) := by decide +kernel
theorem dX1_isNominal_115 : decode cX1_isNominal 115 = .ok (.goto 4, 3) := by decide +kernel
theorem dX1_isNominal_118 : decode cX1_isNominal 118 = .ok (.iconst 0, 1) := by decide +kernel
theorem dX1_isNominal_119 : decode cX1_isNominal 119 = .ok (.ireturn, 1) := by decide +kernel
theorem dX2_init_0 : decode cX2_init 0 = .ok (.aload_n 0, 1) := by decide +kernel
theorem dX2_init_1 : decode cX2_init 1 = .ok (.invokespecial 3, 3) := by decide +kernel
theorem dX2_init_4 : decode cX2_init 4 = .ok (.aload_n 0, 1) := by decide +kernel
theorem dX2_init_5 : decode cX2_init 5 = .ok (.new 9, 3) := by decide +kernel
theorem dX2_init_8 : decode cX2_init 8 = .ok (.dup, 1) := by decide +kernel
theorem dX2_init_9 : decode cX2_init 9 = .ok (.invokespecial 11, 3) := by decide +kernel
theorem dX2_init_12 : decode cX2_init 12 = .ok (.putfield 12, 3) := by decide +kernel
theorem dX2_init_15 : decode cX2_init 15 = .ok (.aload_n 0, 1) := by decide +kernel
theorem dX2_init_16 : decode cX2_init 16 = .ok (.new 16, 3) := by decide +kernel
theorem dX2_init_19 : decode cX2_init 19 = .ok (.dup, 1) := by decide +kernel
theorem dX2_init_20 : decode cX2_init 20 = .ok (.invokespecial 18, 3) := by decide +kernel
theorem dX2_init_23 : decode cX2_init 23 = .ok (.putfield 19, 3) := by decide +kernel
theorem dX2_init_26 : decode cX2_init 26 = .ok (.aload_n 0, 1) := by decide +kernel
theorem dX2_init_27 : decode cX2_init 27 = .ok (.iconst 0, 1) := by decide +kernel
theorem dX2_init_28 : decode cX2_init 28 = .ok (.putfield 23, 3) := by decide +kernel
theorem dX2_init_31 : decode cX2_init 31 = .ok (.aload_n 0, 1) := by decide +kernel
theorem dX2_init_32 : decode cX2_init 32 = .ok (.sipush 720, 3) := by decide +kernel
theorem dX2_init_35 : decode cX2_init 35 = .ok (.newarray .int, 2) := by decide +kernel
theorem dX2_init_37 : decode cX2_init 37 = .ok (.putfield 27, 3) := by decide +kernel
theorem dX2_init_40 : decode cX2_init 40 = .ok (.return_, 1) := by decide +kernel
theorem dX2_holiday_0 : decode cX2_holiday 0 = .ok (.iload_n 1, 1) := by decide +kernel
theorem dX2_holiday_1 : decode cX2_holiday 1 = .ok (.invokestatic 31, 3) := by decide +kernel
theorem dX2_holiday_4 : decode cX2_holiday 4 = .ok (.aload_n 0, 1) := by decide +kernel
theorem dX2_holiday_5 : decode cX2_holiday 5 = .ok (.getfield 12, 3) := by decide +kernel
theorem dX2_holiday_8 : decode cX2_holiday 8 = .ok (.iload_n 1, 1) := by decide +kernel
theorem dX2_holiday_9 : decode cX2_holiday 9 = .ok (.invokevirtual 35, 3) := by decide +kernel
theorem dX2_holiday_12 : decode cX2_holiday 12 = .ok (.istore_n 2, 1) := by decide +kernel
theorem dX2_holiday_13 : decode cX2_holiday 13 = .ok (.iconst 0, 1) := by decide +kernel
theorem dX2_holiday_14 : decode cX2_holiday 14 = .ok (.istore_n 3, 1) := by decide +kernel
theorem dX2_holiday_15 : decode cX2_holiday 15 = .ok (.iload_n 3, 1) := by decide +kernel
theorem dX2_holiday_16 : decode cX2_holiday 16 = .ok (.aload_n 0, 1) := by decide +kernel
theorem dX2_holiday_17 : decode cX2_holiday 17 = .ok (.getfield 19, 3) := by decide +kernel
theorem dX2_holiday_20 : decode cX2_holiday 20 = .ok (.invokevirtual 39, 3) := by decide +kernel
theorem dX2_holiday_23 : decode cX2_holiday 23 = .ok (.if_icmp .ge 27, 3) := by decide +kernel
theorem dX2_holiday_26 : decode cX2_holiday 26 = .ok (.aload_n 0, 1) := by decide +kernel
theorem dX2_holiday_27 : decode cX2_holiday 27 = .ok (.getfield 19, 3) := by decide +kernel
theorem dX2_holiday_30 : decode cX2_holiday 30 = .ok (.iload_n 3, 1) := by decide +kernel
theorem dX2_holiday_31 : decode cX2_holiday 31 = .ok (.invokevirtual 43, 3) := by decide +kernel
theorem dX2_holiday_34 : decode cX2_holiday 34 = .ok (.checkcast 47, 3) := by decide +kernel
theorem dX2_holiday_37 : decode cX2_holiday 37 = .ok (.aload_n 0, 1) := by decide +kernel
theorem dX2_holiday_38 : decode cX2_holiday 38 = .ok (.getfield 12, 3) := by decide +kernel
theorem dX2_holiday_41 : decode cX2_holiday 41 = .ok (.invokevirtual 49, 3) := by decide +kernel
theorem dX2_holiday_44 : decode cX2_holiday 44 = .ok (.iinc 3 1, 3) := by decide +kernel
theorem dX2_holiday_47 : decode cX2_holiday 47 = .ok (.goto (-32), 3) := by decide +kernel
theorem dX2_holiday_50 : decode cX2_holiday 50 = .ok (.iload_n 2, 1) := by decide +kernel
theorem dX2_holiday_51 : decode cX2_holiday 51 = .ok (.ireturn, 1) := by decide +kernel
theorem dX2_isWorking_0 : decode cX2_isWorking 0 = .ok (.iload_n 1, 1) := by decide +kernel
theorem dX2_isWorking_1 : decode cX2_isWorking 1 = .ok (.invokestatic 31, 3) := by decide +kernel
theorem dX2_isWorking_4 : decode cX2_isWorking 4 = .ok (.aload_n 0, 1) := by decide +kernel
theorem dX2_isWorking_5 : decode cX2_isWorking 5 = .ok (.getfield 12, 3) := by decide +kernel
theorem dX2_isWorking_8 : decode cX2_isWorking 8 = .ok (.iload_n 1, 1) := by decide +kernel
theorem dX2_isWorking_9 : decode cX2_isWorking 9 = .ok (.invokevirtual 53, 3) := by decide +kernel
theorem dX2_isWorking_12 : decode cX2_isWorking 12 = .ok (.ireturn, 1) := by decide +kernel
theorem dX2_workingDays_0 : decode cX2_workingDays 0 = .ok (.iload_n 1, 1) := by decide +kernel
theorem dX2_workingDays_1 : decode cX2_workingDays 1 = .ok (.iload_n 2, 1) := by decide +kernel
theorem dX2_workingDays_2 : decode cX2_workingDays 2 = .ok (.invokestatic 56, 3) := by decide +kernel
theorem dX2_workingDays_5 : decode cX2_workingDays 5 = .ok (.iconst 0, 1) := by decide +kernel
theorem dX2_workingDays_6 : decode cX2_workingDays 6 = .ok (.istore_n 3, 1) := by decide +kernel
theorem dX2_workingDays_7 : decode cX2_workingDays 7 = .ok (.iload_n 1, 1) := by decide +kernel
theorem dX2_workingDays_8 : decode cX2_workingDays 8 = .ok (.istore 4, 2) := by decide +kernel
theorem dX2_workingDays_10 : decode cX2_workingDays 10 = .ok (.iload 4, 2) := by decide +kernel
theorem dX2_workingDays_12 : decode cX2_workingDays 12 = .ok (.iload_n 2, 1) := by decide +kernel
theorem dX2_workingDays_13 : decode cX2_workingDays 13 = .ok (.if_icmp .gt 24, 3) := by decide +kernel
theorem dX2_workingDays_16 : decode cX2_workingDays 16 = .ok (.aload_n 0, 1) := by decide +kernel
theorem dX2_workingDays_17 : decode cX2_workingDays 17 = .ok (.getfield 12, 3) := by decide +kernel
theorem dX2_workingDays_20 : decode cX2_workingDays 20 = .ok (.iload 4, 2) := by decide +kernel
theorem dX2_workingDays_22 : decode cX2_workingDays 22 = .ok (.invokevirtual 53, 3) := by decide +kernel
theorem dX2_workingDays_25 : decode cX2_workingDays 25 = .ok (.ifCond .eq 6, 3) := by decide +kernel
theorem dX2_workingDays_28 : decode cX2_workingDays 28 = .ok (.iinc 3 1, 3) := by decide +kernel
theorem dX2_workingDays_31 : decode cX2_workingDays 31 = .ok (.iinc 4 1, 3) := by decide +kernel
theorem dX2_workingDays_34 : decode cX2_workingDays 34 = .ok (.goto (-24), 3) := by decide +kernel
theorem dX2_workingDays_37 : decode cX2_workingDays 37 = .ok (.iload_n 3, 1) := by decide +kernel
theorem dX2_workingDays_38 : decode cX2_workingDays 38 = .ok (.ireturn, 1) := by decide +kernel
theorem dX2_pass_0 : decode cX2_pass 0 = .ok (.iload_n 1, 1) := by decide +kernel
theorem dX2_pass_1 : decode cX2_pass 1 = .ok (.iconst 1, 1) := by decide +kernel
theorem dX2_pass_2 : decode cX2_pass 2 = .ok (.bipush 100, 2) := by decide +kernel
theorem dX2_pass_4 : decode cX2_pass 4 = .ok (.invokestatic 60, 3) := by decide +kernel
theorem dX2_pass_7 : decode cX2_pass 7 = .ok (.aload_n 0, 1) := by decide +kernel
theorem dX2_pass_8 : decode cX2_pass 8 = .ok (.getfield 23, 3) := by decide +kernel
theorem dX2_pass_11 : decode cX2_pass 11 = .ok (.iload_n 1, 1) := by decide +kernel
theorem dX2_pass_12 : decode cX2_pass 12 = .ok (.iadd, 1) := by decide +kernel
theorem dX2_pass_13 : decode cX2_pass 13 = .ok (.sipush 720, 3) := by decide +kernel
theorem dX2_pass_16 : decode cX2_pass 16 = .ok (.if_icmp .lt 13, 3) := by decide +kernel
theorem dX2_pass_19 : decode cX2_pass 19 = .ok (.new 64, 3) := by decide +kernel
theorem dX2_pass_22 : decode cX2_pass 22 = .ok (.dup, 1) := by decide +kernel
theorem dX2_pass_23 : decode cX2_pass 23 = .ok (.ldc 66, 2) := by decide +kernel
theorem dX2_pass_25 : decode cX2_pass 25 = .ok (.invokespecial 68, 3) := by decide +kernel
theorem dX2_pass_28 : decode cX2_pass 28 = .ok (.athrow, 1) := by decide +kernel
theorem dX2_pass_29 : decode cX2_pass 29 = .ok (.aload_n 0, 1) := by decide +kernel
theorem dX2_pass_30 : decode cX2_pass 30 = .ok (.dup, 1) := by decide +kernel
theorem dX2_pass_31 : decode cX2_pass 31 = .ok (.getfield 23, 3) := by decide +kernel
theorem dX2_pass_34 : decode cX2_pass 34 = .ok (.iload_n 1, 1) := by decide +kernel
theorem dX2_pass_35 : decode cX2_pass 35 = .ok (.iadd, 1) := by decide +kernel
theorem dX2_pass_36 : decode cX2_pass 36 = .ok (.putfield 23, 3) := by decide +kernel
theorem dX2_pass_39 : decode cX2_pass 39 = .ok (.aload_n 0, 1) := by decide +kernel
theorem dX2_pass_40 : decode cX2_pass 40 = .ok (.getfield 23, 3) := by decide +kernel
theorem dX2_pass_43 : decode cX2_pass 43 = .ok (.ireturn, 1) := by decide +kernel
theorem dX2_today_0 : decode cX2_today 0 = .ok (.aload_n 0, 1) := by decide +kernel
theorem dX2_today_1 : decode cX2_today 1 = .ok (.getfield 23, 3) := by decide +kernel
theorem dX2_today_4 : decode cX2_today 4 = .ok (.ireturn, 1) := by decide +kernel
theorem dX2_addRule_0 : decode cX2_addRule 0 = .ok (.iload 4, 2) := by decide +kernel
theorem dX2_addRule_2 : decode cX2_addRule 2 = .ok (.invokestatic 31, 3) := by decide +kernel
theorem dX2_addRule_5 : decode cX2_addRule 5 = .ok (.iload_n 1, 1) := by decide +kernel
theorem dX2_addRule_6 : decode cX2_addRule 6 = .ok (.iload_n 2, 1) := by decide +kernel
theorem dX2_addRule_7 : decode cX2_addRule 7 = .ok (.invokestatic 71, 3) := by decide +kernel
theorem dX2_addRule_10 : decode cX2_addRule 10 = .ok (.iload_n 3, 1) := by decide +kernel
theorem dX2_addRule_11 : decode cX2_addRule 11 = .ok (.invokestatic 74, 3) := by decide +kernel
theorem dX2_addRule_14 : decode cX2_addRule 14 = .ok (.iload 5, 2) := by decide +kernel
theorem dX2_addRule_16 : decode cX2_addRule 16 = .ok (.iconst 1, 1) := by decide +kernel
theorem dX2_addRule_17 : decode cX2_addRule 17 = .ok (.bipush 9, 2) := by decide +kernel
theorem dX2_addRule_19 : decode cX2_addRule 19 = .ok (.invokestatic 60, 3) := by decide +kernel
theorem dX2_addRule_22 : decode cX2_addRule 22 = .ok (.iload 6, 2) := by decide +kernel
theorem dX2_addRule_24 : decode cX2_addRule 24 = .ok (.iconst 0, 1) := by decide +kernel
theorem dX2_addRule_25 : decode cX2_addRule 25 = .ok (.bipush 99, 2) := by decide +kernel
theorem dX2_addRule_27 : decode cX2_addRule 27 = .ok (.invokestatic 60, 3) := by decide +kernel
theorem dX2_addRule_30 : decode cX2_addRule 30 = .ok (.aload_n 0, 1) := by decide +kernel
theorem dX2_addRule_31 : decode cX2_addRule 31 = .ok (.getfield 19, 3) := by decide +kernel
theorem dX2_addRule_34 : decode cX2_addRule 34 = .ok (.invokevirtual 39, 3) := by decide +kernel
theorem dX2_addRule_37 : decode cX2_addRule 37 = .ok (.bipush 8, 2) := by decide +kernel
theorem dX2_addRule_39 : decode cX2_addRule 39 = .ok (.if_icmp .lt 13, 3) := by decide +kernel
theorem dX2_addRule_42 : decode cX2_addRule 42 = .ok (.new 64, 3) := by decide +kernel
theorem dX2_addRule_45 : decode cX2_addRule 45 = .ok (.dup, 1) := by decide +kernel
theorem dX2_addRule_46 : decode cX2_addRule 46 = .ok (.ldc 77, 2) := by decide +kernel
theorem dX2_addRule_48 : decode cX2_addRule 48 = .ok (.invokespecial 68, 3) := by decide +kernel
theorem dX2_addRule_51 : decode cX2_addRule 51 = .ok (.athrow, 1) := by decide +kernel
theorem dX2_addRule_52 : decode cX2_addRule 52 = .ok (.new 47, 3) := by decide +kernel
theorem dX2_addRule_55 : decode cX2_addRule 55 = .ok (.dup, 1) := by decide +kernel
theorem dX2_addRule_56 : decode cX2_addRule 56 = .ok (.iload_n 1, 1) := by decide +kernel
theorem dX2_addRule_57 : decode cX2_addRule 57 = .ok (.iload_n 2, 1) := by decide +kernel
theorem dX2_addRule_58 : decode cX2_addRule 58 = .ok (.iload_n 3, 1) := by decide +kernel
theorem dX2_addRule_59 : decode cX2_addRule 59 = .ok (.iload 4, 2) := by decide +kernel
theorem dX2_addRule_61 : decode cX2_addRule 61 = .ok (.iload 5, 2) := by decide +kernel
theorem dX2_addRule_63 : decode cX2_addRule 63 = .ok (.iload 6, 2) := by decide +kernel
theorem dX2_addRule_65 : decode cX2_addRule 65 = .ok (.invokespecial 79, 3) := by decide +kernel
theorem dX2_addRule_68 : decode cX2_addRule 68 = .ok (.astore 7, 2) := by decide +kernel
theorem dX2_addRule_70 : decode cX2_addRule 70 = .ok (.aload 7, 2) := by decide +kernel
theorem dX2_addRule_72 : decode cX2_addRule 72 = .ok (.aload_n 0, 1) := by decide +kernel
theorem dX2_addRule_73 : decode cX2_addRule 73 = .ok (.getfield 12, 3) := by decide +kernel
theorem dX2_addRule_76 : decode cX2_addRule 76 = .ok (.invokevirtual 49, 3) := by decide +kernel
theorem dX2_addRule_79 : decode cX2_addRule 79 = .ok (.aload_n 0, 1) := by decide +kernel
theorem dX2_addRule_80 : decode cX2_addRule 80 = .ok (.getfield 19, 3) := by decide +kernel
theorem dX2_addRule_83 : decode cX2_addRule 83 = .ok (.aload 7, 2) := by decide +kernel
theorem dX2_addRule_85 : decode cX2_addRule 85 = .ok (.invokevirtual 82, 3) := by decide +kernel
theorem dX2_addRule_88 : decode cX2_addRule 88 = .ok (.pop, 1) := by decide +kernel
theorem dX2_addRule_89 : decode cX2_addRule 89 = .ok (.aload_n 0, 1) := by decide +kernel
theorem dX2_addRule_90 : decode cX2_addRule 90 = .ok (.getfield 19, 3) := by decide +kernel
theorem dX2_addRule_93 : decode cX2_addRule 93 = .ok (.invokevirtual 39, 3) := by decide +kernel
theorem dX2_addRule_96 : decode cX2_addRule 96 = .ok (.iconst 1, 1) := by decide +kernel
theorem dX2_addRule_97 : decode cX2_addRule 97 = .ok (.isub, 1) := by decide +kernel
theorem dX2_addRule_98 : decode cX2_addRule 98 = .ok (.ireturn, 1) := by decide +kernel
theorem dX2_setShift_0 : decode cX2_setShift 0 = .ok (.aload_n 0, 1) := by decide +kernel
theorem dX2_setShift_1 : decode cX2_setShift 1 = .ok (.iload_n 1, 1) := by decide +kernel
theorem dX2_setShift_2 : decode cX2_setShift 2 = .ok (.invokevirtual 86, 3) := by decide +kernel
theorem dX2_setShift_5 : decode cX2_setShift 5 = .ok (.astore_n 3, 1) := by decide +kernel
theorem dX2_setShift_6 : decode cX2_setShift 6 = .ok (.iload_n 2, 1) := by decide +kernel
theorem dX2_setShift_7 : decode cX2_setShift 7 = .ok (.invokestatic 74, 3) := by decide +kernel
theorem dX2_setShift_10 : decode cX2_setShift 10 = .ok (.aload_n 3, 1) := by decide +kernel
theorem dX2_setShift_11 : decode cX2_setShift 11 = .ok (.getfield 90, 3) := by decide +kernel
theorem dX2_setShift_14 : decode cX2_setShift 14 = .ok (.istore 4, 2) := by decide +kernel
theorem dX2_setShift_16 : decode cX2_setShift 16 = .ok (.aload_n 3, 1) := by decide +kernel
theorem dX2_setShift_17 : decode cX2_setShift 17 = .ok (.iload_n 2, 1) := by decide +kernel
theorem dX2_setShift_18 : decode cX2_setShift 18 = .ok (.putfield 90, 3) := by decide +kernel
theorem dX2_setShift_21 : decode cX2_setShift 21 = .ok (.aload_n 3, 1) := by decide +kernel
theorem dX2_setShift_22 : decode cX2_setShift 22 = .ok (.aload_n 0, 1) := by decide +kernel
theorem dX2_setShift_23 : decode cX2_setShift 23 = .ok (.getfield 12, 3) := by decide +kernel
theorem dX2_setShift_26 : decode cX2_setShift 26 = .ok (.invokevirtual 49, 3) := by decide +kernel
theorem dX2_setShift_29 : decode cX2_setShift 29 = .ok (.iload 4, 2) := by decide +kernel
theorem dX2_setShift_31 : decode cX2_setShift 31 = .ok (.ireturn, 1) := by decide +kernel
theorem dX2_require_0 : decode cX2_require 0 = .ok (.aload_n 0, 1) := by decide +kernel
theorem dX2_require_1 : decode cX2_require 1 = .ok (.iload_n 1, 1) := by decide +kernel
theorem dX2_require_2 : decode cX2_require 2 = .ok (.invokevirtual 86, 3) := by decide +kernel
theorem dX2_require_5 : decode cX2_require 5 = .ok (.astore_n 3, 1) := by decide +kernel
theorem dX2_require_6 : decode cX2_require 6 = .ok (.aload_n 0, 1) := by decide +kernel
theorem dX2_require_7 : decode cX2_require 7 = .ok (.iload_n 2, 1) := by decide +kernel
theorem dX2_require_8 : decode cX2_require 8 = .ok (.invokevirtual 86, 3) := by decide +kernel
theorem dX2_require_11 : decode cX2_require 11 = .ok (.astore 4, 2) := by decide +kernel
theorem dX2_require_13 : decode cX2_require 13 = .ok (.iload_n 1, 1) := by decide +kernel
theorem dX2_require_14 : decode cX2_require 14 = .ok (.iload_n 2, 1) := by decide +kernel
theorem dX2_require_15 : decode cX2_require 15 = .ok (.if_icmp .eq 12, 3) := by decide +kernel
theorem dX2_require_18 : decode cX2_require 18 = .ok (.aload 4, 2) := by decide +kernel
theorem dX2_require_20 : decode cX2_require 20 = .ok (.iload_n 1, 1) := by decide +kernel
theorem dX2_require_21 : decode cX2_require 21 = .ok (.invokevirtual 93, 3) := by decide +kernel
theorem dX2_require_24 : decode cX2_require 24 = .ok (.ifCond .eq 13, 3) := by decide +kernel
theorem dX2_require_27 : decode cX2_require 27 = .ok (.new 64, 3) := by decide +kernel
theorem dX2_require_30 : decode cX2_require 30 = .ok (.dup, 1) := by decide +kernel
theorem dX2_require_31 : decode cX2_require 31 = .ok (.ldc 96, 2) := by decide +kernel
theorem dX2_require_33 : decode cX2_require 33 = .ok (.invokespecial 68, 3) := by decide +kernel
theorem dX2_require_36 : decode cX2_require 36 = .ok (.athrow, 1) := by decide +kernel
theorem dX2_require_37 : decode cX2_require 37 = .ok (.aload_n 3, 1) := by decide +kernel
theorem dX2_require_38 : decode cX2_require 38 = .ok (.iload_n 2, 1) := by decide +kernel
theorem dX2_require_39 : decode cX2_require 39 = .ok (.invokevirtual 98, 3) := by decide +kernel
theorem dX2_require_42 : decode cX2_require 42 = .ok (.ifCond .eq 5, 3) := by decide +kernel
theorem dX2_require_45 : decode cX2_require 45 = .ok (.iconst 0, 1) := by decide +kernel
theorem dX2_require_46 : decode cX2_require 46 = .ok (.ireturn, 1) := by decide +kernel
theorem dX2_require_47 : decode cX2_require 47 = .ok (.aload_n 3, 1) := by decide +kernel
theorem dX2_require_48 : decode cX2_require 48 = .ok (.dup, 1) := by decide +kernel
theorem dX2_require_49 : decode cX2_require 49 = .ok (.getfield 101, 3) := by decide +kernel
theorem dX2_require_52 : decode cX2_require 52 = .ok (.iconst 1, 1) := by decide +kernel
theorem dX2_require_53 : decode cX2_require 53 = .ok (.iload_n 2, 1) := by decide +kernel
theorem dX2_require_54 : decode cX2_require 54 = .ok (.ishl, 1) := by decide +kernel
theorem dX2_require_55 : decode cX2_require 55 = .ok (.ior, 1) := by decide +kernel
theorem dX2_require_56 : decode cX2_require 56 = .ok (.putfield 101, 3) := by decide +kernel
theorem dX2_require_59 : decode cX2_require 59 = .ok (.aload_n 0, 1) := by decide +kernel
theorem dX2_require_60 : decode cX2_require 60 = .ok (.iload_n 1, 1) := by decide +kernel
theorem dX2_require_61 : decode cX2_require 61 = .ok (.aload 4, 2) := by decide +kernel
theorem dX2_require_63 : decode cX2_require 63 = .ok (.getfield 104, 3) := by decide +kernel
theorem dX2_require_66 : decode cX2_require 66 = .ok (.iconst 1, 1) := by decide +kernel
theorem dX2_require_67 : decode cX2_require 67 = .ok (.iload_n 2, 1) := by decide +kernel
theorem dX2_require_68 : decode cX2_require 68 = .ok (.ishl, 1) := by decide +kernel
theorem dX2_require_69 : decode cX2_require 69 = .ok (.ior, 1) := by decide +kernel
theorem dX2_require_70 : decode cX2_require 70 = .ok (.invokevirtual 107, 3) := by decide +kernel
theorem dX2_require_73 : decode cX2_require 73 = .ok (.iconst 1, 1) := by decide +kernel
theorem dX2_require_74 : decode cX2_require 74 = .ok (.ireturn, 1) := by decide +kernel
theorem dX2_rules_0 : decode cX2_rules 0 = .ok (.aload_n 0, 1) := by decide +kernel
theorem dX2_rules_1 : decode cX2_rules 1 = .ok (.getfield 19, 3) := by decide +kernel
theorem dX2_rules_4 : decode cX2_rules 4 = .ok (.invokevirtual 39, 3) := by decide +kernel
theorem dX2_rules_7 : decode cX2_rules 7 = .ok (.ireturn, 1) := by decide +kernel
theorem dX2_dueDay_0 : decode cX2_dueDay 0 = .ok (.aload_n 0, 1) := by decide +kernel
theorem dX2_dueDay_1 : decode cX2_dueDay 1 = .ok (.iload_n 1, 1) := by decide +kernel
theorem dX2_dueDay_2 : decode cX2_dueDay 2 = .ok (.invokevirtual 86, 3) := by decide +kernel
theorem dX2_dueDay_5 : decode cX2_dueDay 5 = .ok (.astore_n 3, 1) := by decide +kernel
theorem dX2_dueDay_6 : decode cX2_dueDay 6 = .ok (.iload_n 2, 1) := by decide +kernel
theorem dX2_dueDay_7 : decode cX2_dueDay 7 = .ok (.invokestatic 110, 3) := by decide +kernel
theorem dX2_dueDay_10 : decode cX2_dueDay 10 = .ok (.aload_n 3, 1) := by decide +kernel
theorem dX2_dueDay_11 : decode cX2_dueDay 11 = .ok (.iload_n 2, 1) := by decide +kernel
theorem dX2_dueDay_12 : decode cX2_dueDay 12 = .ok (.invokevirtual 113, 3) := by decide +kernel
theorem dX2_dueDay_15 : decode cX2_dueDay 15 = .ok (.ireturn, 1) := by decide +kernel
theorem dX2_duties_0 : decode cX2_duties 0 = .ok (.aload_n 0, 1) := by decide +kernel
theorem dX2_duties_1 : decode cX2_duties 1 = .ok (.iload_n 1, 1) := by decide +kernel
theorem dX2_duties_2 : decode cX2_duties 2 = .ok (.invokevirtual 86, 3) := by decide +kernel
theorem dX2_duties_5 : decode cX2_duties 5 = .ok (.sipush 720, 3) := by decide +kernel
theorem dX2_duties_8 : decode cX2_duties 8 = .ok (.invokevirtual 117, 3) := by decide +kernel
theorem dX2_duties_11 : decode cX2_duties 11 = .ok (.ireturn, 1) := by decide +kernel
theorem dX2_nextDue_0 : decode cX2_nextDue 0 = .ok (.aload_n 0, 1) := by decide +kernel
theorem dX2_nextDue_1 : decode cX2_nextDue 1 = .ok (.iload_n 1, 1) := by decide +kernel
theorem dX2_nextDue_2 : decode cX2_nextDue 2 = .ok (.invokevirtual 86, 3) := by decide +kernel
theorem dX2_nextDue_5 : decode cX2_nextDue 5 = .ok (.astore_n 3, 1) := by decide +kernel
theorem dX2_nextDue_6 : decode cX2_nextDue 6 = .ok (.iload_n 2, 1) := by decide +kernel
theorem dX2_nextDue_7 : decode cX2_nextDue 7 = .ok (.invokestatic 31, 3) := by decide +kernel
theorem dX2_nextDue_10 : decode cX2_nextDue 10 = .ok (.aload_n 3, 1) := by decide +kernel
theorem dX2_nextDue_11 : decode cX2_nextDue 11 = .ok (.iload_n 2, 1) := by decide +kernel
theorem dX2_nextDue_12 : decode cX2_nextDue 12 = .ok (.invokevirtual 120, 3) := by decide +kernel
theorem dX2_nextDue_15 : decode cX2_nextDue 15 = .ok (.ireturn, 1) := by decide +kernel
theorem dX2_nextDueByWalking_0 : decode cX2_nextDueByWalking 0 = .ok (.aload_n 0, 1) := by decide +kernel
theorem dX2_nextDueByWalking_1 : decode cX2_nextDueByWalking 1 = .ok (.iload_n 1, 1) := by decide +kernel
theorem dX2_nextDueByWalking_2 : decode cX2_nextDueByWalking 2 = .ok (.invokevirtual 86, 3) := by decide +kernel
theorem dX2_nextDueByWalking_5 : decode cX2_nextDueByWalking 5 = .ok (.astore_n 3, 1) := by decide +kernel
theorem dX2_nextDueByWalking_6 : decode cX2_nextDueByWalking 6 = .ok (.iload_n 2, 1) := by decide +kernel
theorem dX2_nextDueByWalking_7 : decode cX2_nextDueByWalking 7 = .ok (.invokestatic 31, 3) := by decide +kernel
theorem dX2_nextDueByWalking_10 : decode cX2_nextDueByWalking 10 = .ok (.aload_n 3, 1) := by decide +kernel
theorem dX2_nextDueByWalking_11 : decode cX2_nextDueByWalking 11 = .ok (.iload_n 2, 1) := by decide +kernel
theorem dX2_nextDueByWalking_12 : decode cX2_nextDueByWalking 12 = .ok (.aload_n 0, 1) := by decide +kernel
theorem dX2_nextDueByWalking_13 : decode cX2_nextDueByWalking 13 = .ok (.getfield 12, 3) := by decide +kernel
theorem dX2_nextDueByWalking_16 : decode cX2_nextDueByWalking 16 = .ok (.invokevirtual 123, 3) := by decide +kernel
theorem dX2_nextDueByWalking_19 : decode cX2_nextDueByWalking 19 = .ok (.ireturn, 1) := by decide +kernel
theorem dX2_upcoming_0 : decode cX2_upcoming 0 = .ok (.iload_n 1, 1) := by decide +kernel
theorem dX2_upcoming_1 : decode cX2_upcoming 1 = .ok (.invokestatic 31, 3) := by decide +kernel
theorem dX2_upcoming_4 : decode cX2_upcoming 4 = .ok (.iload_n 2, 1) := by decide +kernel
theorem dX2_upcoming_5 : decode cX2_upcoming 5 = .ok (.invokestatic 110, 3) := by decide +kernel
theorem dX2_upcoming_8 : decode cX2_upcoming 8 = .ok (.iconst 0, 1) := by decide +kernel
theorem dX2_upcoming_9 : decode cX2_upcoming 9 = .ok (.istore_n 3, 1) := by decide +kernel
theorem dX2_upcoming_10 : decode cX2_upcoming 10 = .ok (.iload_n 1, 1) := by decide +kernel
theorem dX2_upcoming_11 : decode cX2_upcoming 11 = .ok (.istore 4, 2) := by decide +kernel
theorem dX2_upcoming_13 : decode cX2_upcoming 13 = .ok (.iload 4, 2) := by decide +kernel
theorem dX2_upcoming_15 : decode cX2_upcoming 15 = .ok (.sipush 720, 3) := by decide +kernel
theorem dX2_upcoming_18 : decode cX2_upcoming 18 = .ok (.if_icmp .ge 67, 3) := by decide +kernel
theorem dX2_upcoming_21 : decode cX2_upcoming 21 = .ok (.iconst 0, 1) := by decide +kernel
theorem dX2_upcoming_22 : decode cX2_upcoming 22 = .ok (.istore 5, 2) := by decide +kernel
theorem dX2_upcoming_24 : decode cX2_upcoming 24 = .ok (.iload 5, 2) := by decide +kernel
theorem dX2_upcoming_26 : decode cX2_upcoming 26 = .ok (.aload_n 0, 1) := by decide +kernel
theorem dX2_upcoming_27 : decode cX2_upcoming 27 = .ok (.getfield 19, 3) := by decide +kernel
theorem dX2_upcoming_30 : decode cX2_upcoming 30 = .ok (.invokevirtual 39, 3) := by decide +kernel
theorem dX2_upcoming_33 : decode cX2_upcoming 33 = .ok (.if_icmp .ge 46, 3) := by decide +kernel
theorem dX2_upcoming_36 : decode cX2_upcoming 36 = .ok (.aload_n 0, 1) := by decide +kernel
theorem dX2_upcoming_37 : decode cX2_upcoming 37 = .ok (.getfield 19, 3) := by decide +kernel
theorem dX2_upcoming_40 : decode cX2_upcoming 40 = .ok (.iload 5, 2) := by decide +kernel
theorem dX2_upcoming_42 : decode cX2_upcoming 42 = .ok (.invokevirtual 43, 3) := by decide +kernel
theorem dX2_upcoming_45 : decode cX2_upcoming 45 = .ok (.checkcast 47, 3) := by decide +kernel
theorem dX2_upcoming_48 : decode cX2_upcoming 48 = .ok (.iload 4, 2) := by decide +kernel
theorem dX2_upcoming_50 : decode cX2_upcoming 50 = .ok (.invokevirtual 127, 3) := by decide +kernel
theorem dX2_upcoming_53 : decode cX2_upcoming 53 = .ok (.ifCond .eq 20, 3) := by decide +kernel
theorem dX2_upcoming_56 : decode cX2_upcoming 56 = .ok (.iload_n 3, 1) := by decide +kernel
theorem dX2_upcoming_57 : decode cX2_upcoming 57 = .ok (.iload_n 2, 1) := by decide +kernel
theorem dX2_upcoming_58 : decode cX2_upcoming 58 = .ok (.if_icmp .ne 12, 3) := by decide +kernel
theorem dX2_upcoming_61 : decode cX2_upcoming 61 = .ok (.bipush 10, 2) := by decide +kernel
theorem dX2_upcoming_63 : decode cX2_upcoming 63 = .ok (.iload 4, 2) := by decide +kernel
theorem dX2_upcoming_65 : decode cX2_upcoming 65 = .ok (.imul, 1) := by decide +kernel
theorem dX2_upcoming_66 : decode cX2_upcoming 66 = .ok (.iload 5, 2) := by decide +kernel
theorem dX2_upcoming_68 : decode cX2_upcoming 68 = .ok (.iadd, 1) := by decide +kernel
theorem dX2_upcoming_69 : decode cX2_upcoming 69 = .ok (.ireturn, 1) := by decide +kernel
theorem dX2_upcoming_70 : decode cX2_upcoming 70 = .ok (.iinc 3 1, 3) := by decide +kernel
theorem dX2_upcoming_73 : decode cX2_upcoming 73 = .ok (.iinc 5 1, 3) := by decide +kernel
theorem dX2_upcoming_76 : decode cX2_upcoming 76 = .ok (.goto (-52), 3) := by decide +kernel
theorem dX2_upcoming_79 : decode cX2_upcoming 79 = .ok (.iinc 4 1, 3) := by decide +kernel
theorem dX2_upcoming_82 : decode cX2_upcoming 82 = .ok (.goto (-69), 3) := by decide +kernel
theorem dX2_upcoming_85 : decode cX2_upcoming 85 = .ok (.iconst (-1), 1) := by decide +kernel
theorem dX2_upcoming_86 : decode cX2_upcoming 86 = .ok (.ireturn, 1) := by decide +kernel
theorem dX2_finish_0 : decode cX2_finish 0 = .ok (.aload_n 0, 1) := by decide +kernel
theorem dX2_finish_1 : decode cX2_finish 1 = .ok (.iload_n 1, 1) := by decide +kernel
theorem dX2_finish_2 : decode cX2_finish 2 = .ok (.invokevirtual 86, 3) := by decide +kernel
theorem dX2_finish_5 : decode cX2_finish 5 = .ok (.astore_n 2, 1) := by decide +kernel
theorem dX2_finish_6 : decode cX2_finish 6 = .ok (.aload_n 2, 1) := by decide +kernel
theorem dX2_finish_7 : decode cX2_finish 7 = .ok (.invokevirtual 130, 3) := by decide +kernel
theorem dX2_finish_10 : decode cX2_finish 10 = .ok (.istore_n 3, 1) := by decide +kernel
theorem dX2_finish_11 : decode cX2_finish 11 = .ok (.iload_n 3, 1) := by decide +kernel
theorem dX2_finish_12 : decode cX2_finish 12 = .ok (.iconst (-1), 1) := by decide +kernel
theorem dX2_finish_13 : decode cX2_finish 13 = .ok (.if_icmp .ne 13, 3) := by decide +kernel
theorem dX2_finish_16 : decode cX2_finish 16 = .ok (.new 133, 3) := by decide +kernel
theorem dX2_finish_19 : decode cX2_finish 19 = .ok (.dup, 1) := by decide +kernel
theorem dX2_finish_20 : decode cX2_finish 20 = .ok (.ldc 135, 2) := by decide +kernel
theorem dX2_finish_22 : decode cX2_finish 22 = .ok (.invokespecial 137, 3) := by decide +kernel
theorem dX2_finish_25 : decode cX2_finish 25 = .ok (.athrow, 1) := by decide +kernel
theorem dX2_finish_26 : decode cX2_finish 26 = .ok (.aload_n 0, 1) := by decide +kernel
theorem dX2_finish_27 : decode cX2_finish 27 = .ok (.invokevirtual 138, 3) := by decide +kernel
theorem dX2_finish_30 : decode cX2_finish 30 = .ok (.aload_n 0, 1) := by decide +kernel
theorem dX2_finish_31 : decode cX2_finish 31 = .ok (.aload_n 2, 1) := by decide +kernel
theorem dX2_finish_32 : decode cX2_finish 32 = .ok (.invokevirtual 141, 3) := by decide +kernel
theorem dX2_finish_35 : decode cX2_finish 35 = .ok (.iconst (-1), 1) := by decide +kernel
theorem dX2_finish_36 : decode cX2_finish 36 = .ok (.if_icmp .eq 13, 3) := by decide +kernel
theorem dX2_finish_39 : decode cX2_finish 39 = .ok (.new 64, 3) := by decide +kernel
theorem dX2_finish_42 : decode cX2_finish 42 = .ok (.dup, 1) := by decide +kernel
theorem dX2_finish_43 : decode cX2_finish 43 = .ok (.ldc 145, 2) := by decide +kernel
theorem dX2_finish_45 : decode cX2_finish 45 = .ok (.invokespecial 68, 3) := by decide +kernel
theorem dX2_finish_48 : decode cX2_finish 48 = .ok (.athrow, 1) := by decide +kernel
theorem dX2_finish_49 : decode cX2_finish 49 = .ok (.aload_n 2, 1) := by decide +kernel
theorem dX2_finish_50 : decode cX2_finish 50 = .ok (.dup, 1) := by decide +kernel
theorem dX2_finish_51 : decode cX2_finish 51 = .ok (.getfield 147, 3) := by decide +kernel
theorem dX2_finish_54 : decode cX2_finish 54 = .ok (.iconst 1, 1) := by decide +kernel
theorem dX2_finish_55 : decode cX2_finish 55 = .ok (.iadd, 1) := by decide +kernel
theorem dX2_finish_56 : decode cX2_finish 56 = .ok (.putfield 147, 3) := by decide +kernel
theorem dX2_finish_59 : decode cX2_finish 59 = .ok (.aload_n 2, 1) := by decide +kernel
theorem dX2_finish_60 : decode cX2_finish 60 = .ok (.aload_n 0, 1) := by decide +kernel
theorem dX2_finish_61 : decode cX2_finish 61 = .ok (.getfield 23, 3) := by decide +kernel
theorem dX2_finish_64 : decode cX2_finish 64 = .ok (.putfield 150, 3) := by decide +kernel
theorem dX2_finish_67 : decode cX2_finish 67 = .ok (.aload_n 0, 1) := by decide +kernel
theorem dX2_finish_68 : decode cX2_finish 68 = .ok (.getfield 23, 3) := by decide +kernel
theorem dX2_finish_71 : decode cX2_finish 71 = .ok (.iload_n 3, 1) := by decide +kernel
theorem dX2_finish_72 : decode cX2_finish 72 = .ok (.isub, 1) := by decide +kernel
theorem dX2_finish_73 : decode cX2_finish 73 = .ok (.ireturn, 1) := by decide +kernel
theorem dX2_open_0 : decode cX2_open 0 = .ok (.aload_n 0, 1) := by decide +kernel
theorem dX2_open_1 : decode cX2_open 1 = .ok (.iload_n 1, 1) := by decide +kernel
theorem dX2_open_2 : decode cX2_open 2 = .ok (.invokevirtual 86, 3) := by decide +kernel
theorem dX2_open_5 : decode cX2_open 5 = .ok (.invokevirtual 130, 3) := by decide +kernel
theorem dX2_open_8 : decode cX2_open 8 = .ok (.ireturn, 1) := by decide +kernel
theorem dX2_finished_0 : decode cX2_finished 0 = .ok (.aload_n 0, 1) := by decide +kernel
theorem dX2_finished_1 : decode cX2_finished 1 = .ok (.iload_n 1, 1) := by decide +kernel
theorem dX2_finished_2 : decode cX2_finished 2 = .ok (.invokevirtual 86, 3) := by decide +kernel
theorem dX2_finished_5 : decode cX2_finished 5 = .ok (.getfield 147, 3) := by decide +kernel
theorem dX2_finished_8 : decode cX2_finished 8 = .ok (.ireturn, 1) := by decide +kernel
theorem dX2_blockedBy_0 : decode cX2_blockedBy 0 = .ok (.aload_n 0, 1) := by decide +kernel
theorem dX2_blockedBy_1 : decode cX2_blockedBy 1 = .ok (.iload_n 1, 1) := by decide +kernel
theorem dX2_blockedBy_2 : decode cX2_blockedBy 2 = .ok (.invokevirtual 86, 3) := by decide +kernel
theorem dX2_blockedBy_5 : decode cX2_blockedBy 5 = .ok (.astore_n 2, 1) := by decide +kernel
theorem dX2_blockedBy_6 : decode cX2_blockedBy 6 = .ok (.aload_n 0, 1) := by decide +kernel
theorem dX2_blockedBy_7 : decode cX2_blockedBy 7 = .ok (.invokevirtual 138, 3) := by decide +kernel
theorem dX2_blockedBy_10 : decode cX2_blockedBy 10 = .ok (.aload_n 0, 1) := by decide +kernel
theorem dX2_blockedBy_11 : decode cX2_blockedBy 11 = .ok (.aload_n 2, 1) := by decide +kernel
theorem dX2_blockedBy_12 : decode cX2_blockedBy 12 = .ok (.invokevirtual 141, 3) := by decide +kernel
theorem dX2_blockedBy_15 : decode cX2_blockedBy 15 = .ok (.ireturn, 1) := by decide +kernel
theorem dX2_overdue_0 : decode cX2_overdue 0 = .ok (.iconst 0, 1) := by decide +kernel
theorem dX2_overdue_1 : decode cX2_overdue 1 = .ok (.istore_n 1, 1) := by decide +kernel
theorem dX2_overdue_2 : decode cX2_overdue 2 = .ok (.iconst 0, 1) := by decide +kernel
theorem dX2_overdue_3 : decode cX2_overdue 3 = .ok (.istore_n 2, 1) := by decide +kernel
theorem dX2_overdue_4 : decode cX2_overdue 4 = .ok (.iload_n 2, 1) := by decide +kernel
theorem dX2_overdue_5 : decode cX2_overdue 5 = .ok (.aload_n 0, 1) := by decide +kernel
theorem dX2_overdue_6 : decode cX2_overdue 6 = .ok (.getfield 19, 3) := by decide +kernel
theorem dX2_overdue_9 : decode cX2_overdue 9 = .ok (.invokevirtual 39, 3) := by decide +kernel
theorem dX2_overdue_12 : decode cX2_overdue 12 = .ok (.if_icmp .ge 41, 3) := by decide +kernel
theorem dX2_overdue_15 : decode cX2_overdue 15 = .ok (.aload_n 0, 1) := by decide +kernel
theorem dX2_overdue_16 : decode cX2_overdue 16 = .ok (.getfield 19, 3) := by decide +kernel
theorem dX2_overdue_19 : decode cX2_overdue 19 = .ok (.iload_n 2, 1) := by decide +kernel
theorem dX2_overdue_20 : decode cX2_overdue 20 = .ok (.invokevirtual 43, 3) := by decide +kernel
theorem dX2_overdue_23 : decode cX2_overdue 23 = .ok (.checkcast 47, 3) := by decide +kernel
theorem dX2_overdue_26 : decode cX2_overdue 26 = .ok (.astore_n 3, 1) := by decide +kernel
theorem dX2_overdue_27 : decode cX2_overdue 27 = .ok (.iload_n 1, 1) := by decide +kernel
theorem dX2_overdue_28 : decode cX2_overdue 28 = .ok (.iconst 0, 1) := by decide +kernel
theorem dX2_overdue_29 : decode cX2_overdue 29 = .ok (.aload_n 3, 1) := by decide +kernel
theorem dX2_overdue_30 : decode cX2_overdue 30 = .ok (.aload_n 0, 1) := by decide +kernel
theorem dX2_overdue_31 : decode cX2_overdue 31 = .ok (.getfield 23, 3) := by decide +kernel
theorem dX2_overdue_34 : decode cX2_overdue 34 = .ok (.invokevirtual 117, 3) := by decide +kernel
theorem dX2_overdue_37 : decode cX2_overdue 37 = .ok (.aload_n 3, 1) := by decide +kernel
theorem dX2_overdue_38 : decode cX2_overdue 38 = .ok (.getfield 147, 3) := by decide +kernel
theorem dX2_overdue_41 : decode cX2_overdue 41 = .ok (.isub, 1) := by decide +kernel
theorem dX2_overdue_42 : decode cX2_overdue 42 = .ok (.invokestatic 153, 3) := by decide +kernel
theorem dX2_overdue_45 : decode cX2_overdue 45 = .ok (.iadd, 1) := by decide +kernel
theorem dX2_overdue_46 : decode cX2_overdue 46 = .ok (.istore_n 1, 1) := by decide +kernel
theorem dX2_overdue_47 : decode cX2_overdue 47 = .ok (.iinc 2 1, 3) := by decide +kernel
theorem dX2_overdue_50 : decode cX2_overdue 50 = .ok (.goto (-46), 3) := by decide +kernel
theorem dX2_overdue_53 : decode cX2_overdue 53 = .ok (.iload_n 1, 1) := by decide +kernel
theorem dX2_overdue_54 : decode cX2_overdue 54 = .ok (.ireturn, 1) := by decide +kernel
theorem dX2_order_0 : decode cX2_order 0 = .ok (.iload_n 1, 1) := by decide +kernel
theorem dX2_order_1 : decode cX2_order 1 = .ok (.invokestatic 31, 3) := by decide +kernel
theorem dX2_order_4 : decode cX2_order 4 = .ok (.iload_n 2, 1) := by decide +kernel
theorem dX2_order_5 : decode cX2_order 5 = .ok (.invokestatic 110, 3) := by decide +kernel
theorem dX2_order_8 : decode cX2_order 8 = .ok (.aload_n 0, 1) := by decide +kernel
theorem dX2_order_9 : decode cX2_order 9 = .ok (.invokevirtual 138, 3) := by decide +kernel
theorem dX2_order_12 : decode cX2_order 12 = .ok (.iconst 0, 1) := by decide +kernel
theorem dX2_order_13 : decode cX2_order 13 = .ok (.istore_n 3, 1) := by decide +kernel
theorem dX2_order_14 : decode cX2_order 14 = .ok (.iload_n 3, 1) := by decide +kernel
theorem dX2_order_15 : decode cX2_order 15 = .ok (.sipush 5760, 3) := by decide +kernel
theorem dX2_order_18 : decode cX2_order 18 = .ok (.if_icmp .ge 55, 3) := by decide +kernel
theorem dX2_order_21 : decode cX2_order 21 = .ok (.aload_n 0, 1) := by decide +kernel
theorem dX2_order_22 : decode cX2_order 22 = .ok (.iload_n 1, 1) := by decide +kernel
theorem dX2_order_23 : decode cX2_order 23 = .ok (.invokevirtual 159, 3) := by decide +kernel
theorem dX2_order_26 : decode cX2_order 26 = .ok (.istore 4, 2) := by decide +kernel
theorem dX2_order_28 : decode cX2_order 28 = .ok (.iload 4, 2) := by decide +kernel
theorem dX2_order_30 : decode cX2_order 30 = .ok (.iconst (-1), 1) := by decide +kernel
theorem dX2_order_31 : decode cX2_order 31 = .ok (.if_icmp .eq 8, 3) := by decide +kernel
theorem dX2_order_34 : decode cX2_order 34 = .ok (.iload_n 3, 1) := by decide +kernel
theorem dX2_order_35 : decode cX2_order 35 = .ok (.iload_n 2, 1) := by decide +kernel
theorem dX2_order_36 : decode cX2_order 36 = .ok (.if_icmp .ne 6, 3) := by decide +kernel
theorem dX2_order_39 : decode cX2_order 39 = .ok (.iload 4, 2) := by decide +kernel
theorem dX2_order_41 : decode cX2_order 41 = .ok (.ireturn, 1) := by decide +kernel
theorem dX2_order_42 : decode cX2_order 42 = .ok (.aload_n 0, 1) := by decide +kernel
theorem dX2_order_43 : decode cX2_order 43 = .ok (.iload 4, 2) := by decide +kernel
theorem dX2_order_45 : decode cX2_order 45 = .ok (.invokevirtual 86, 3) := by decide +kernel
theorem dX2_order_48 : decode cX2_order 48 = .ok (.astore 5, 2) := by decide +kernel
theorem dX2_order_50 : decode cX2_order 50 = .ok (.aload 5, 2) := by decide +kernel
theorem dX2_order_52 : decode cX2_order 52 = .ok (.aload 5, 2) := by decide +kernel
theorem dX2_order_54 : decode cX2_order 54 = .ok (.aload 5, 2) := by decide +kernel
theorem dX2_order_56 : decode cX2_order 56 = .ok (.getfield 162, 3) := by decide +kernel
theorem dX2_order_59 : decode cX2_order 59 = .ok (.iconst 1, 1) := by decide +kernel
theorem dX2_order_60 : decode cX2_order 60 = .ok (.iadd, 1) := by decide +kernel
theorem dX2_order_61 : decode cX2_order 61 = .ok (.invokevirtual 120, 3) := by decide +kernel
theorem dX2_order_64 : decode cX2_order 64 = .ok (.putfield 162, 3) := by decide +kernel
theorem dX2_order_67 : decode cX2_order 67 = .ok (.iinc 3 1, 3) := by decide +kernel
theorem dX2_order_70 : decode cX2_order 70 = .ok (.goto (-56), 3) := by decide +kernel
theorem dX2_order_73 : decode cX2_order 73 = .ok (.iconst (-1), 1) := by decide +kernel
theorem dX2_order_74 : decode cX2_order 74 = .ok (.ireturn, 1) := by decide +kernel
theorem dX2_isCovered_0 : decode cX2_isCovered 0 = .ok (.aload_n 0, 1) := by decide +kernel
theorem dX2_isCovered_1 : decode cX2_isCovered 1 = .ok (.iload_n 1, 1) := by decide +kernel
theorem dX2_isCovered_2 : decode cX2_isCovered 2 = .ok (.invokevirtual 86, 3) := by decide +kernel
theorem dX2_isCovered_5 : decode cX2_isCovered 5 = .ok (.astore_n 3, 1) := by decide +kernel
theorem dX2_isCovered_6 : decode cX2_isCovered 6 = .ok (.iload_n 2, 1) := by decide +kernel
theorem dX2_isCovered_7 : decode cX2_isCovered 7 = .ok (.invokestatic 31, 3) := by decide +kernel
theorem dX2_isCovered_10 : decode cX2_isCovered 10 = .ok (.aload_n 3, 1) := by decide +kernel
theorem dX2_isCovered_11 : decode cX2_isCovered 11 = .ok (.invokevirtual 165, 3) := by decide +kernel
theorem dX2_isCovered_14 : decode cX2_isCovered 14 = .ok (.ifCond .eq 23, 3) := by decide +kernel
theorem dX2_isCovered_17 : decode cX2_isCovered 17 = .ok (.iload_n 2, 1) := by decide +kernel
theorem dX2_isCovered_18 : decode cX2_isCovered 18 = .ok (.aload_n 3, 1) := by decide +kernel
theorem dX2_isCovered_19 : decode cX2_isCovered 19 = .ok (.getfield 150, 3) := by decide +kernel
theorem dX2_isCovered_22 : decode cX2_isCovered 22 = .ok (.if_icmp .lt 15, 3) := by decide +kernel
theorem dX2_isCovered_25 : decode cX2_isCovered 25 = .ok (.iload_n 2, 1) := by decide +kernel
theorem dX2_isCovered_26 : decode cX2_isCovered 26 = .ok (.aload_n 3, 1) := by decide +kernel
theorem dX2_isCovered_27 : decode cX2_isCovered 27 = .ok (.invokevirtual 169, 3) := by decide +kernel
theorem dX2_isCovered_30 : decode cX2_isCovered 30 = .ok (.if_icmp .gt 7, 3) := by decide +kernel
theorem dX2_isCovered_33 : decode cX2_isCovered 33 = .ok (.iconst 1, 1) := by decide +kernel
theorem dX2_isCovered_34 : decode cX2_isCovered 34 = .ok (.goto 4, 3) := by decide +kernel
theorem dX2_isCovered_37 : decode cX2_isCovered 37 = .ok (.iconst 0, 1) := by decide +kernel
theorem dX2_isCovered_38 : decode cX2_isCovered 38 = .ok (.ireturn, 1) := by decide +kernel
theorem dX2_lasts_0 : decode cX2_lasts 0 = .ok (.aload_n 0, 1) := by decide +kernel
theorem dX2_lasts_1 : decode cX2_lasts 1 = .ok (.iload_n 1, 1) := by decide +kernel
theorem dX2_lasts_2 : decode cX2_lasts 2 = .ok (.invokevirtual 86, 3) := by decide +kernel
theorem dX2_lasts_5 : decode cX2_lasts 5 = .ok (.astore_n 2, 1) := by decide +kernel
theorem dX2_lasts_6 : decode cX2_lasts 6 = .ok (.aload_n 2, 1) := by decide +kernel
theorem dX2_lasts_7 : decode cX2_lasts 7 = .ok (.invokevirtual 165, 3) := by decide +kernel
theorem dX2_lasts_10 : decode cX2_lasts 10 = .ok (.ifCond .ne 13, 3) := by decide +kernel
theorem dX2_lasts_13 : decode cX2_lasts 13 = .ok (.new 133, 3) := by decide +kernel
theorem dX2_lasts_16 : decode cX2_lasts 16 = .ok (.dup, 1) := by decide +kernel
theorem dX2_lasts_17 : decode cX2_lasts 17 = .ok (.ldc 172, 2) := by decide +kernel
theorem dX2_lasts_19 : decode cX2_lasts 19 = .ok (.invokespecial 137, 3) := by decide +kernel
theorem dX2_lasts_22 : decode cX2_lasts 22 = .ok (.athrow, 1) := by decide +kernel
theorem dX2_lasts_23 : decode cX2_lasts 23 = .ok (.aload_n 2, 1) := by decide +kernel
theorem dX2_lasts_24 : decode cX2_lasts 24 = .ok (.invokevirtual 169, 3) := by decide +kernel
theorem dX2_lasts_27 : decode cX2_lasts 27 = .ok (.aload_n 0, 1) := by decide +kernel
theorem dX2_lasts_28 : decode cX2_lasts 28 = .ok (.getfield 23, 3) := by decide +kernel
theorem dX2_lasts_31 : decode cX2_lasts 31 = .ok (.isub, 1) := by decide +kernel
theorem dX2_lasts_32 : decode cX2_lasts 32 = .ok (.ireturn, 1) := by decide +kernel
theorem dX2_load_0 : decode cX2_load 0 = .ok (.iload_n 1, 1) := by decide +kernel
theorem dX2_load_1 : decode cX2_load 1 = .ok (.invokestatic 31, 3) := by decide +kernel
theorem dX2_load_4 : decode cX2_load 4 = .ok (.aload_n 0, 1) := by decide +kernel
theorem dX2_load_5 : decode cX2_load 5 = .ok (.iload_n 1, 1) := by decide +kernel
theorem dX2_load_6 : decode cX2_load 6 = .ok (.invokevirtual 174, 3) := by decide +kernel
theorem dX2_load_9 : decode cX2_load 9 = .ok (.ireturn, 1) := by decide +kernel
theorem dX2_heaviest_0 : decode cX2_heaviest 0 = .ok (.iload_n 1, 1) := by decide +kernel
theorem dX2_heaviest_1 : decode cX2_heaviest 1 = .ok (.iload_n 2, 1) := by decide +kernel
theorem dX2_heaviest_2 : decode cX2_heaviest 2 = .ok (.invokestatic 56, 3) := by decide +kernel
theorem dX2_heaviest_5 : decode cX2_heaviest 5 = .ok (.iload_n 1, 1) := by decide +kernel
theorem dX2_heaviest_6 : decode cX2_heaviest 6 = .ok (.istore_n 3, 1) := by decide +kernel
theorem dX2_heaviest_7 : decode cX2_heaviest 7 = .ok (.aload_n 0, 1) := by decide +kernel
theorem dX2_heaviest_8 : decode cX2_heaviest 8 = .ok (.iload_n 1, 1) := by decide +kernel
theorem dX2_heaviest_9 : decode cX2_heaviest 9 = .ok (.invokevirtual 174, 3) := by decide +kernel
theorem dX2_heaviest_12 : decode cX2_heaviest 12 = .ok (.istore 4, 2) := by decide +kernel
theorem dX2_heaviest_14 : decode cX2_heaviest 14 = .ok (.iload_n 1, 1) := by decide +kernel
theorem dX2_heaviest_15 : decode cX2_heaviest 15 = .ok (.iconst 1, 1) := by decide +kernel
theorem dX2_heaviest_16 : decode cX2_heaviest 16 = .ok (.iadd, 1) := by decide +kernel
theorem dX2_heaviest_17 : decode cX2_heaviest 17 = .ok (.istore 5, 2) := by decide +kernel
theorem dX2_heaviest_19 : decode cX2_heaviest 19 = .ok (.iload 5, 2) := by decide +kernel
theorem dX2_heaviest_21 : decode cX2_heaviest 21 = .ok (.iload_n 2, 1) := by decide +kernel
theorem dX2_heaviest_22 : decode cX2_heaviest 22 = .ok (.if_icmp .gt 31, 3) := by decide +kernel
theorem dX2_heaviest_25 : decode cX2_heaviest 25 = .ok (.aload_n 0, 1) := by decide +kernel
theorem dX2_heaviest_26 : decode cX2_heaviest 26 = .ok (.iload 5, 2) := by decide +kernel
theorem dX2_heaviest_28 : decode cX2_heaviest 28 = .ok (.invokevirtual 174, 3) := by decide +kernel
theorem dX2_heaviest_31 : decode cX2_heaviest 31 = .ok (.istore 6, 2) := by decide +kernel
theorem dX2_heaviest_33 : decode cX2_heaviest 33 = .ok (.iload 6, 2) := by decide +kernel
theorem dX2_heaviest_35 : decode cX2_heaviest 35 = .ok (.iload 4, 2) := by decide +kernel
theorem dX2_heaviest_37 : decode cX2_heaviest 37 = .ok (.if_icmp .le 10, 3) := by decide +kernel
theorem dX2_heaviest_40 : decode cX2_heaviest 40 = .ok (.iload 5, 2) := by decide +kernel
theorem dX2_heaviest_42 : decode cX2_heaviest 42 = .ok (.istore_n 3, 1) := by decide +kernel
theorem dX2_heaviest_43 : decode cX2_heaviest 43 = .ok (.iload 6, 2) := by decide +kernel
theorem dX2_heaviest_45 : decode cX2_heaviest 45 = .ok (.istore 4, 2) := by decide +kernel
theorem dX2_heaviest_47 : decode cX2_heaviest 47 = .ok (.iinc 5 1, 3) := by decide +kernel
theorem dX2_heaviest_50 : decode cX2_heaviest 50 = .ok (.goto (-31), 3) := by decide +kernel
theorem dX2_heaviest_53 : decode cX2_heaviest 53 = .ok (.iload_n 3, 1) := by decide +kernel
theorem dX2_heaviest_54 : decode cX2_heaviest 54 = .ok (.ireturn, 1) := by decide +kernel
theorem dX2_level_0 : decode cX2_level 0 = .ok (.iload_n 1, 1) := by decide +kernel
theorem dX2_level_1 : decode cX2_level 1 = .ok (.iload_n 2, 1) := by decide +kernel
theorem dX2_level_2 : decode cX2_level 2 = .ok (.invokestatic 56, 3) := by decide +kernel
theorem dX2_level_5 : decode cX2_level 5 = .ok (.iload_n 3, 1) := by decide +kernel
theorem dX2_level_6 : decode cX2_level 6 = .ok (.iconst 1, 1) := by decide +kernel
theorem dX2_level_7 : decode cX2_level 7 = .ok (.bipush 99, 2) := by decide +kernel
theorem dX2_level_9 : decode cX2_level 9 = .ok (.invokestatic 60, 3) := by decide +kernel
theorem dX2_level_12 : decode cX2_level 12 = .ok (.aload_n 0, 1) := by decide +kernel
theorem dX2_level_13 : decode cX2_level 13 = .ok (.iload_n 1, 1) := by decide +kernel
theorem dX2_level_14 : decode cX2_level 14 = .ok (.iload_n 2, 1) := by decide +kernel
theorem dX2_level_15 : decode cX2_level 15 = .ok (.iload_n 3, 1) := by decide +kernel
theorem dX2_level_16 : decode cX2_level 16 = .ok (.invokevirtual 177, 3) := by decide +kernel
theorem dX2_level_19 : decode cX2_level 19 = .ok (.ireturn, 1) := by decide +kernel
theorem dX2_levelled_0 : decode cX2_levelled 0 = .ok (.iload 4, 2) := by decide +kernel
theorem dX2_levelled_2 : decode cX2_levelled 2 = .ok (.invokestatic 31, 3) := by decide +kernel
theorem dX2_levelled_5 : decode cX2_levelled 5 = .ok (.iload_n 1, 1) := by decide +kernel
theorem dX2_levelled_6 : decode cX2_levelled 6 = .ok (.iload_n 2, 1) := by decide +kernel
theorem dX2_levelled_7 : decode cX2_levelled 7 = .ok (.invokestatic 56, 3) := by decide +kernel
theorem dX2_levelled_10 : decode cX2_levelled 10 = .ok (.iload_n 3, 1) := by decide +kernel
theorem dX2_levelled_11 : decode cX2_levelled 11 = .ok (.iconst 1, 1) := by decide +kernel
theorem dX2_levelled_12 : decode cX2_levelled 12 = .ok (.bipush 99, 2) := by decide +kernel
theorem dX2_levelled_14 : decode cX2_levelled 14 = .ok (.invokestatic 60, 3) := by decide +kernel
theorem dX2_levelled_17 : decode cX2_levelled 17 = .ok (.aload_n 0, 1) := by decide +kernel
theorem dX2_levelled_18 : decode cX2_levelled 18 = .ok (.iload_n 1, 1) := by decide +kernel
theorem dX2_levelled_19 : decode cX2_levelled 19 = .ok (.iload_n 2, 1) := by decide +kernel
theorem dX2_levelled_20 : decode cX2_levelled 20 = .ok (.iload_n 3, 1) := by decide +kernel
theorem dX2_levelled_21 : decode cX2_levelled 21 = .ok (.invokevirtual 177, 3) := by decide +kernel
theorem dX2_levelled_24 : decode cX2_levelled 24 = .ok (.pop, 1) := by decide +kernel
theorem dX2_levelled_25 : decode cX2_levelled 25 = .ok (.aload_n 0, 1) := by decide +kernel
theorem dX2_levelled_26 : decode cX2_levelled 26 = .ok (.getfield 27, 3) := by decide +kernel
theorem dX2_levelled_29 : decode cX2_levelled 29 = .ok (.iload 4, 2) := by decide +kernel
theorem dX2_levelled_31 : decode cX2_levelled 31 = .ok (.iaload, 1) := by decide +kernel
theorem dX2_levelled_32 : decode cX2_levelled 32 = .ok (.ireturn, 1) := by decide +kernel
theorem dX2_isDay_0 : decode cX2_isDay 0 = .ok (.iload_n 0, 1) := by decide +kernel
theorem dX2_isDay_1 : decode cX2_isDay 1 = .ok (.ifCond .lt 14, 3) := by decide +kernel
theorem dX2_isDay_4 : decode cX2_isDay 4 = .ok (.iload_n 0, 1) := by decide +kernel
theorem dX2_isDay_5 : decode cX2_isDay 5 = .ok (.sipush 720, 3) := by decide +kernel
theorem dX2_isDay_8 : decode cX2_isDay 8 = .ok (.if_icmp .ge 7, 3) := by decide +kernel
theorem dX2_isDay_11 : decode cX2_isDay 11 = .ok (.iconst 1, 1) := by decide +kernel
theorem dX2_isDay_12 : decode cX2_isDay 12 = .ok (.goto 4, 3) := by decide +kernel
theorem dX2_isDay_15 : decode cX2_isDay 15 = .ok (.iconst 0, 1) := by decide +kernel
theorem dX2_isDay_16 : decode cX2_isDay 16 = .ok (.ireturn, 1) := by decide +kernel
theorem dX2_checkDay_0 : decode cX2_checkDay 0 = .ok (.iload_n 0, 1) := by decide +kernel
theorem dX2_checkDay_1 : decode cX2_checkDay 1 = .ok (.invokestatic 181, 3) := by decide +kernel
theorem dX2_checkDay_4 : decode cX2_checkDay 4 = .ok (.ifCond .ne 13, 3) := by decide +kernel
theorem dX2_checkDay_7 : decode cX2_checkDay 7 = .ok (.new 184, 3) := by decide +kernel
theorem dX2_checkDay_10 : decode cX2_checkDay 10 = .ok (.dup, 1) := by decide +kernel
theorem dX2_checkDay_11 : decode cX2_checkDay 11 = .ok (.ldc 186, 2) := by decide +kernel
theorem dX2_checkDay_13 : decode cX2_checkDay 13 = .ok (.invokespecial 188, 3) := by decide +kernel
theorem dX2_checkDay_16 : decode cX2_checkDay 16 = .ok (.athrow, 1) := by decide +kernel
theorem dX2_checkDay_17 : decode cX2_checkDay 17 = .ok (.return_, 1) := by decide +kernel
theorem dX2_checkSpan_0 : decode cX2_checkSpan 0 = .ok (.iload_n 0, 1) := by decide +kernel
theorem dX2_checkSpan_1 : decode cX2_checkSpan 1 = .ok (.invokestatic 31, 3) := by decide +kernel
theorem dX2_checkSpan_4 : decode cX2_checkSpan 4 = .ok (.iload_n 1, 1) := by decide +kernel
theorem dX2_checkSpan_5 : decode cX2_checkSpan 5 = .ok (.invokestatic 31, 3) := by decide +kernel
theorem dX2_checkSpan_8 : decode cX2_checkSpan 8 = .ok (.iload_n 1, 1) := by decide +kernel
theorem dX2_checkSpan_9 : decode cX2_checkSpan 9 = .ok (.iload_n 0, 1) := by decide +kernel
theorem dX2_checkSpan_10 : decode cX2_checkSpan 10 = .ok (.if_icmp .ge 13, 3) := by decide +kernel
theorem dX2_checkSpan_13 : decode cX2_checkSpan 13 = .ok (.new 189, 3) := by decide +kernel
theorem dX2_checkSpan_16 : decode cX2_checkSpan 16 = .ok (.dup, 1) := by decide +kernel
theorem dX2_checkSpan_17 : decode cX2_checkSpan 17 = .ok (.ldc 191, 2) := by decide +kernel
theorem dX2_checkSpan_19 : decode cX2_checkSpan 19 = .ok (.invokespecial 193, 3) := by decide +kernel
theorem dX2_checkSpan_22 : decode cX2_checkSpan 22 = .ok (.athrow, 1) := by decide +kernel
theorem dX2_checkSpan_23 : decode cX2_checkSpan 23 = .ok (.return_, 1) := by decide +kernel
theorem dX2_checkPlace_0 : decode cX2_checkPlace 0 = .ok (.iload_n 0, 1) := by decide +kernel
theorem dX2_checkPlace_1 : decode cX2_checkPlace 1 = .ok (.ifCond .ge 13, 3) := by decide +kernel
theorem dX2_checkPlace_4 : decode cX2_checkPlace 4 = .ok (.new 184, 3) := by decide +kernel
theorem dX2_checkPlace_7 : decode cX2_checkPlace 7 = .ok (.dup, 1) := by decide +kernel
theorem dX2_checkPlace_8 : decode cX2_checkPlace 8 = .ok (.ldc 194, 2) := by decide +kernel
theorem dX2_checkPlace_10 : decode cX2_checkPlace 10 = .ok (.invokespecial 188, 3) := by decide +kernel
theorem dX2_checkPlace_13 : decode cX2_checkPlace 13 = .ok (.athrow, 1) := by decide +kernel
theorem dX2_checkPlace_14 : decode cX2_checkPlace 14 = .ok (.return_, 1) := by decide +kernel
theorem dX2_checkRange_0 : decode cX2_checkRange 0 = .ok (.iload_n 0, 1) := by decide +kernel
theorem dX2_checkRange_1 : decode cX2_checkRange 1 = .ok (.iload_n 1, 1) := by decide +kernel
theorem dX2_checkRange_2 : decode cX2_checkRange 2 = .ok (.if_icmp .lt 8, 3) := by decide +kernel
theorem dX2_checkRange_5 : decode cX2_checkRange 5 = .ok (.iload_n 0, 1) := by decide +kernel
theorem dX2_checkRange_6 : decode cX2_checkRange 6 = .ok (.iload_n 2, 1) := by decide +kernel
theorem dX2_checkRange_7 : decode cX2_checkRange 7 = .ok (.if_icmp .le 13, 3) := by decide +kernel
theorem dX2_checkRange_10 : decode cX2_checkRange 10 = .ok (.new 189, 3) := by decide +kernel
theorem dX2_checkRange_13 : decode cX2_checkRange 13 = .ok (.dup, 1) := by decide +kernel
theorem dX2_checkRange_14 : decode cX2_checkRange 14 = .ok (.ldc 196, 2) := by decide +kernel
theorem dX2_checkRange_16 : decode cX2_checkRange 16 = .ok (.invokespecial 193, 3) := by decide +kernel
theorem dX2_checkRange_19 : decode cX2_checkRange 19 = .ok (.athrow, 1) := by decide +kernel
theorem dX2_checkRange_20 : decode cX2_checkRange 20 = .ok (.return_, 1) := by decide +kernel
theorem dX2_checkKind_0 : decode cX2_checkKind 0 = .ok (.iload_n 0, 1) := by decide +kernel
theorem dX2_checkKind_1 : decode cX2_checkKind 1 = .ok (.iconst 0, 1) := by decide +kernel
theorem dX2_checkKind_2 : decode cX2_checkKind 2 = .ok (.iconst 3, 1) := by decide +kernel
theorem dX2_checkKind_3 : decode cX2_checkKind 3 = .ok (.invokestatic 60, 3) := by decide +kernel
theorem dX2_checkKind_6 : decode cX2_checkKind 6 = .ok (.iload_n 0, 1) := by decide +kernel
theorem dX2_checkKind_7 : decode cX2_checkKind 7 = .ok (.ifCond .ne 13, 3) := by decide +kernel
theorem dX2_checkKind_10 : decode cX2_checkKind 10 = .ok (.iload_n 1, 1) := by decide +kernel
theorem dX2_checkKind_11 : decode cX2_checkKind 11 = .ok (.iconst 1, 1) := by decide +kernel
theorem dX2_checkKind_12 : decode cX2_checkKind 12 = .ok (.bipush 60, 2) := by decide +kernel
theorem dX2_checkKind_14 : decode cX2_checkKind 14 = .ok (.invokestatic 60, 3) := by decide +kernel
theorem dX2_checkKind_17 : decode cX2_checkKind 17 = .ok (.goto 25, 3) := by decide +kernel
theorem dX2_checkKind_20 : decode cX2_checkKind 20 = .ok (.iload_n 0, 1) := by decide +kernel
theorem dX2_checkKind_21 : decode cX2_checkKind 21 = .ok (.iconst 1, 1) := by decide +kernel
theorem dX2_checkKind_22 : decode cX2_checkKind 22 = .ok (.if_icmp .ne 13, 3) := by decide +kernel
theorem dX2_checkKind_25 : decode cX2_checkKind 25 = .ok (.iload_n 1, 1) := by decide +kernel
theorem dX2_checkKind_26 : decode cX2_checkKind 26 = .ok (.iconst 0, 1) := by decide +kernel
theorem dX2_checkKind_27 : decode cX2_checkKind 27 = .ok (.bipush 29, 2) := by decide +kernel
theorem dX2_checkKind_29 : decode cX2_checkKind 29 = .ok (.invokestatic 60, 3) := by decide +kernel
theorem dX2_checkKind_32 : decode cX2_checkKind 32 = .ok (.goto 10, 3) := by decide +kernel
theorem dX2_checkKind_35 : decode cX2_checkKind 35 = .ok (.iload_n 1, 1) := by decide +kernel
theorem dX2_checkKind_36 : decode cX2_checkKind 36 = .ok (.iconst 1, 1) := by decide +kernel
theorem dX2_checkKind_37 : decode cX2_checkKind 37 = .ok (.bipush 22, 2) := by decide +kernel
theorem dX2_checkKind_39 : decode cX2_checkKind 39 = .ok (.invokestatic 60, 3) := by decide +kernel
theorem dX2_checkKind_42 : decode cX2_checkKind 42 = .ok (.return_, 1) := by decide +kernel
theorem dX2_checkShift_0 : decode cX2_checkShift 0 = .ok (.iload_n 0, 1) := by decide +kernel
theorem dX2_checkShift_1 : decode cX2_checkShift 1 = .ok (.iconst 0, 1) := by decide +kernel
theorem dX2_checkShift_2 : decode cX2_checkShift 2 = .ok (.iconst 2, 1) := by decide +kernel
theorem dX2_checkShift_3 : decode cX2_checkShift 3 = .ok (.invokestatic 60, 3) := by decide +kernel
theorem dX2_checkShift_6 : decode cX2_checkShift 6 = .ok (.return_, 1) := by decide +kernel
theorem dX2_ruleAt_0 : decode cX2_ruleAt 0 = .ok (.iload_n 1, 1) := by decide +kernel
theorem dX2_ruleAt_1 : decode cX2_ruleAt 1 = .ok (.ifCond .lt 14, 3) := by decide +kernel
theorem dX2_ruleAt_4 : decode cX2_ruleAt 4 = .ok (.iload_n 1, 1) := by decide +kernel
theorem dX2_ruleAt_5 : decode cX2_ruleAt 5 = .ok (.aload_n 0, 1) := by decide +kernel
theorem dX2_ruleAt_6 : decode cX2_ruleAt 6 = .ok (.getfield 19, 3) := by decide +kernel
theorem dX2_ruleAt_9 : decode cX2_ruleAt 9 = .ok (.invokevirtual 39, 3) := by decide +kernel
theorem dX2_ruleAt_12 : decode cX2_ruleAt 12 = .ok (.if_icmp .lt 13, 3) := by decide +kernel
theorem dX2_ruleAt_15 : decode cX2_ruleAt 15 = .ok (.new 184, 3) := by decide +kernel
theorem dX2_ruleAt_18 : decode cX2_ruleAt 18 = .ok (.dup, 1) := by decide +kernel
theorem dX2_ruleAt_19 : decode cX2_ruleAt 19 = .ok (.ldc 198, 2) := by decide +kernel
theorem dX2_ruleAt_21 : decode cX2_ruleAt 21 = .ok (.invokespecial 188, 3) := by decide +kernel
theorem dX2_ruleAt_24 : decode cX2_ruleAt 24 = .ok (.athrow, 1) := by decide +kernel
theorem dX2_ruleAt_25 : decode cX2_ruleAt 25 = .ok (.aload_n 0, 1) := by decide +kernel
theorem dX2_ruleAt_26 : decode cX2_ruleAt 26 = .ok (.getfield 19, 3) := by decide +kernel
theorem dX2_ruleAt_29 : decode cX2_ruleAt 29 = .ok (.iload_n 1, 1) := by decide +kernel
theorem dX2_ruleAt_30 : decode cX2_ruleAt 30 = .ok (.invokevirtual 43, 3) := by decide +kernel
theorem dX2_ruleAt_33 : decode cX2_ruleAt 33 = .ok (.checkcast 47, 3) := by decide +kernel
theorem dX2_ruleAt_36 : decode cX2_ruleAt 36 = .ok (.areturn, 1) := by decide +kernel
theorem dX2_spreadNeeds_0 : decode cX2_spreadNeeds 0 = .ok (.iconst 0, 1) := by decide +kernel
theorem dX2_spreadNeeds_1 : decode cX2_spreadNeeds 1 = .ok (.istore_n 3, 1) := by decide +kernel
theorem dX2_spreadNeeds_2 : decode cX2_spreadNeeds 2 = .ok (.iload_n 3, 1) := by decide +kernel
theorem dX2_spreadNeeds_3 : decode cX2_spreadNeeds 3 = .ok (.aload_n 0, 1) := by decide +kernel
theorem dX2_spreadNeeds_4 : decode cX2_spreadNeeds 4 = .ok (.getfield 19, 3) := by decide +kernel
theorem dX2_spreadNeeds_7 : decode cX2_spreadNeeds 7 = .ok (.invokevirtual 39, 3) := by decide +kernel
theorem dX2_spreadNeeds_10 : decode cX2_spreadNeeds 10 = .ok (.if_icmp .ge 47, 3) := by decide +kernel
theorem dX2_spreadNeeds_13 : decode cX2_spreadNeeds 13 = .ok (.aload_n 0, 1) := by decide +kernel
theorem dX2_spreadNeeds_14 : decode cX2_spreadNeeds 14 = .ok (.getfield 19, 3) := by decide +kernel
theorem dX2_spreadNeeds_17 : decode cX2_spreadNeeds 17 = .ok (.iload_n 3, 1) := by decide +kernel
theorem dX2_spreadNeeds_18 : decode cX2_spreadNeeds 18 = .ok (.invokevirtual 43, 3) := by decide +kernel
theorem dX2_spreadNeeds_21 : decode cX2_spreadNeeds 21 = .ok (.checkcast 47, 3) := by decide +kernel
theorem dX2_spreadNeeds_24 : decode cX2_spreadNeeds 24 = .ok (.astore 4, 2) := by decide +kernel
theorem dX2_spreadNeeds_26 : decode cX2_spreadNeeds 26 = .ok (.iload_n 3, 1) := by decide +kernel
theorem dX2_spreadNeeds_27 : decode cX2_spreadNeeds 27 = .ok (.iload_n 1, 1) := by decide +kernel
theorem dX2_spreadNeeds_28 : decode cX2_spreadNeeds 28 = .ok (.if_icmp .eq 12, 3) := by decide +kernel
theorem dX2_spreadNeeds_31 : decode cX2_spreadNeeds 31 = .ok (.aload 4, 2) := by decide +kernel
theorem dX2_spreadNeeds_33 : decode cX2_spreadNeeds 33 = .ok (.iload_n 1, 1) := by decide +kernel
theorem dX2_spreadNeeds_34 : decode cX2_spreadNeeds 34 = .ok (.invokevirtual 93, 3) := by decide +kernel
theorem dX2_spreadNeeds_37 : decode cX2_spreadNeeds 37 = .ok (.ifCond .eq 14, 3) := by decide +kernel
theorem dX2_spreadNeeds_40 : decode cX2_spreadNeeds 40 = .ok (.aload 4, 2) := by decide +kernel
theorem dX2_spreadNeeds_42 : decode cX2_spreadNeeds 42 = .ok (.dup, 1) := by decide +kernel
theorem dX2_spreadNeeds_43 : decode cX2_spreadNeeds 43 = .ok (.getfield 104, 3) := by decide +kernel
theorem dX2_spreadNeeds_46 : decode cX2_spreadNeeds 46 = .ok (.iload_n 2, 1) := by decide +kernel
theorem dX2_spreadNeeds_47 : decode cX2_spreadNeeds 47 = .ok (.ior, 1) := by decide +kernel
theorem dX2_spreadNeeds_48 : decode cX2_spreadNeeds 48 = .ok (.putfield 104, 3) := by decide +kernel
theorem dX2_spreadNeeds_51 : decode cX2_spreadNeeds 51 = .ok (.iinc 3 1, 3) := by decide +kernel
theorem dX2_spreadNeeds_54 : decode cX2_spreadNeeds 54 = .ok (.goto (-52), 3) := by decide +kernel
theorem dX2_spreadNeeds_57 : decode cX2_spreadNeeds 57 = .ok (.return_, 1) := by decide +kernel
theorem dX2_foreseeOpenDuties_0 : decode cX2_foreseeOpenDuties 0 = .ok (.iconst 0, 1) := by decide +kernel
theorem dX2_foreseeOpenDuties_1 : decode cX2_foreseeOpenDuties 1 = .ok (.istore_n 1, 1) := by decide +kernel
theorem dX2_foreseeOpenDuties_2 : decode cX2_foreseeOpenDuties 2 = .ok (.iload_n 1, 1) := by decide +kernel
theorem dX2_foreseeOpenDuties_3 : decode cX2_foreseeOpenDuties 3 = .ok (.aload_n 0, 1) := by decide +kernel
theorem dX2_foreseeOpenDuties_4 : decode cX2_foreseeOpenDuties 4 = .ok (.getfield 19, 3) := by decide +kernel
theorem dX2_foreseeOpenDuties_7 : decode cX2_foreseeOpenDuties 7 = .ok (.invokevirtual 39, 3) := by decide +kernel
theorem dX2_foreseeOpenDuties_10 : decode cX2_foreseeOpenDuties 10 = .ok (.if_icmp .ge 29, 3) := by decide +kernel
theorem dX2_foreseeOpenDuties_13 : decode cX2_foreseeOpenDuties 13 = .ok (.aload_n 0, 1) := by decide +kernel
theorem dX2_foreseeOpenDuties_14 : decode cX2_foreseeOpenDuties 14 = .ok (.getfield 19, 3) := by decide +kernel
theorem dX2_foreseeOpenDuties_17 : decode cX2_foreseeOpenDuties 17 = .ok (.iload_n 1, 1) := by decide +kernel
theorem dX2_foreseeOpenDuties_18 : decode cX2_foreseeOpenDuties 18 = .ok (.invokevirtual 43, 3) := by decide +kernel
theorem dX2_foreseeOpenDuties_21 : decode cX2_foreseeOpenDuties 21 = .ok (.checkcast 47, 3) := by decide +kernel
theorem dX2_foreseeOpenDuties_24 : decode cX2_foreseeOpenDuties 24 = .ok (.astore_n 2, 1) := by decide +kernel
theorem dX2_foreseeOpenDuties_25 : decode cX2_foreseeOpenDuties 25 = .ok (.aload_n 2, 1) := by decide +kernel
theorem dX2_foreseeOpenDuties_26 : decode cX2_foreseeOpenDuties 26 = .ok (.aload_n 2, 1) := by decide +kernel
theorem dX2_foreseeOpenDuties_27 : decode cX2_foreseeOpenDuties 27 = .ok (.invokevirtual 130, 3) := by decide +kernel
theorem dX2_foreseeOpenDuties_30 : decode cX2_foreseeOpenDuties 30 = .ok (.putfield 162, 3) := by decide +kernel
theorem dX2_foreseeOpenDuties_33 : decode cX2_foreseeOpenDuties 33 = .ok (.iinc 1 1, 3) := by decide +kernel
theorem dX2_foreseeOpenDuties_36 : decode cX2_foreseeOpenDuties 36 = .ok (.goto (-34), 3) := by decide +kernel
theorem dX2_foreseeOpenDuties_39 : decode cX2_foreseeOpenDuties 39 = .ok (.return_, 1) := by decide +kernel
theorem dX2_leastBlocker_0 : decode cX2_leastBlocker 0 = .ok (.iconst 0, 1) := by decide +kernel
theorem dX2_leastBlocker_1 : decode cX2_leastBlocker 1 = .ok (.istore_n 2, 1) := by decide +kernel
theorem dX2_leastBlocker_2 : decode cX2_leastBlocker 2 = .ok (.iload_n 2, 1) := by decide +kernel
theorem dX2_leastBlocker_3 : decode cX2_leastBlocker 3 = .ok (.aload_n 0, 1) := by decide +kernel
theorem dX2_leastBlocker_4 : decode cX2_leastBlocker 4 = .ok (.getfield 19, 3) := by decide +kernel
theorem dX2_leastBlocker_7 : decode cX2_leastBlocker 7 = .ok (.invokevirtual 39, 3) := by decide +kernel
theorem dX2_leastBlocker_10 : decode cX2_leastBlocker 10 = .ok (.if_icmp .ge 62, 3) := by decide +kernel
theorem dX2_leastBlocker_13 : decode cX2_leastBlocker 13 = .ok (.aload_n 0, 1) := by decide +kernel
theorem dX2_leastBlocker_14 : decode cX2_leastBlocker 14 = .ok (.getfield 19, 3) := by decide +kernel
theorem dX2_leastBlocker_17 : decode cX2_leastBlocker 17 = .ok (.iload_n 2, 1) := by decide +kernel
theorem dX2_leastBlocker_18 : decode cX2_leastBlocker 18 = .ok (.invokevirtual 43, 3) := by decide +kernel
theorem dX2_leastBlocker_21 : decode cX2_leastBlocker 21 = .ok (.checkcast 47, 3) := by decide +kernel
theorem dX2_leastBlocker_24 : decode cX2_leastBlocker 24 = .ok (.astore_n 3, 1) := by decide +kernel
theorem dX2_leastBlocker_25 : decode cX2_leastBlocker 25 = .ok (.aload_n 3, 1) := by decide +kernel
theorem dX2_leastBlocker_26 : decode cX2_leastBlocker 26 = .ok (.getfield 162, 3) := by decide +kernel
theorem dX2_leastBlocker_29 : decode cX2_leastBlocker 29 = .ok (.iconst (-1), 1) := by decide +kernel
theorem dX2_leastBlocker_30 : decode cX2_leastBlocker 30 = .ok (.if_icmp .eq 7, 3) := by decide +kernel
theorem dX2_leastBlocker_33 : decode cX2_leastBlocker 33 = .ok (.iconst 1, 1) := by decide +kernel
theorem dX2_leastBlocker_34 : decode cX2_leastBlocker 34 = .ok (.goto 4, 3) := by decide +kernel
theorem dX2_leastBlocker_37 : decode cX2_leastBlocker 37 = .ok (.iconst 0, 1) := by decide +kernel
theorem dX2_leastBlocker_38 : decode cX2_leastBlocker 38 = .ok (.istore 4, 2) := by decide +kernel
theorem dX2_leastBlocker_40 : decode cX2_leastBlocker 40 = .ok (.aload_n 1, 1) := by decide +kernel
theorem dX2_leastBlocker_41 : decode cX2_leastBlocker 41 = .ok (.iload_n 2, 1) := by decide +kernel
theorem dX2_leastBlocker_42 : decode cX2_leastBlocker 42 = .ok (.invokevirtual 98, 3) := by decide +kernel
theorem dX2_leastBlocker_45 : decode cX2_leastBlocker 45 = .ok (.ifCond .eq 21, 3) := by decide +kernel
theorem dX2_leastBlocker_48 : decode cX2_leastBlocker 48 = .ok (.iload 4, 2) := by decide +kernel
theorem dX2_leastBlocker_50 : decode cX2_leastBlocker 50 = .ok (.ifCond .eq 16, 3) := by decide +kernel
theorem dX2_leastBlocker_53 : decode cX2_leastBlocker 53 = .ok (.aload_n 3, 1) := by decide +kernel
theorem dX2_leastBlocker_54 : decode cX2_leastBlocker 54 = .ok (.getfield 162, 3) := by decide +kernel
theorem dX2_leastBlocker_57 : decode cX2_leastBlocker 57 = .ok (.aload_n 1, 1) := by decide +kernel
theorem dX2_leastBlocker_58 : decode cX2_leastBlocker 58 = .ok (.getfield 162, 3) := by decide +kernel
theorem dX2_leastBlocker_61 : decode cX2_leastBlocker 61 = .ok (.if_icmp .gt 5, 3) := by decide +kernel
theorem dX2_leastBlocker_64 : decode cX2_leastBlocker 64 = .ok (.iload_n 2, 1) := by decide +kernel
theorem dX2_leastBlocker_65 : decode cX2_leastBlocker 65 = .ok (.ireturn, 1) := by decide +kernel
theorem dX2_leastBlocker_66 : decode cX2_leastBlocker 66 = .ok (.iinc 2 1, 3) := by decide +kernel
theorem dX2_leastBlocker_69 : decode cX2_leastBlocker 69 = .ok (.goto (-67), 3) := by decide +kernel
theorem dX2_leastBlocker_72 : decode cX2_leastBlocker 72 = .ok (.iconst (-1), 1) := by decide +kernel
theorem dX2_leastBlocker_73 : decode cX2_leastBlocker 73 = .ok (.ireturn, 1) := by decide +kernel
theorem dX2_nextInOrder_0 : decode cX2_nextInOrder 0 = .ok (.iconst (-1), 1) := by decide +kernel
theorem dX2_nextInOrder_1 : decode cX2_nextInOrder 1 = .ok (.istore_n 2, 1) := by decide +kernel
theorem dX2_nextInOrder_2 : decode cX2_nextInOrder 2 = .ok (.iload_n 1, 1) := by decide +kernel
theorem dX2_nextInOrder_3 : decode cX2_nextInOrder 3 = .ok (.iconst 1, 1) := by decide +kernel
theorem dX2_nextInOrder_4 : decode cX2_nextInOrder 4 = .ok (.iadd, 1) := by decide +kernel
theorem dX2_nextInOrder_5 : decode cX2_nextInOrder 5 = .ok (.istore_n 3, 1) := by decide +kernel
theorem dX2_nextInOrder_6 : decode cX2_nextInOrder 6 = .ok (.iconst 0, 1) := by decide +kernel
theorem dX2_nextInOrder_7 : decode cX2_nextInOrder 7 = .ok (.istore 4, 2) := by decide +kernel
theorem dX2_nextInOrder_9 : decode cX2_nextInOrder 9 = .ok (.iload 4, 2) := by decide +kernel
theorem dX2_nextInOrder_11 : decode cX2_nextInOrder 11 = .ok (.aload_n 0, 1) := by decide +kernel
theorem dX2_nextInOrder_12 : decode cX2_nextInOrder 12 = .ok (.getfield 19, 3) := by decide +kernel
theorem dX2_nextInOrder_15 : decode cX2_nextInOrder 15 = .ok (.invokevirtual 39, 3) := by decide +kernel
theorem dX2_nextInOrder_18 : decode cX2_nextInOrder 18 = .ok (.if_icmp .ge 72, 3) := by decide +kernel
theorem dX2_nextInOrder_21 : decode cX2_nextInOrder 21 = .ok (.aload_n 0, 1) := by decide +kernel
theorem dX2_nextInOrder_22 : decode cX2_nextInOrder 22 = .ok (.getfield 19, 3) := by decide +kernel
theorem dX2_nextInOrder_25 : decode cX2_nextInOrder 25 = .ok (.iload 4, 2) := by decide +kernel
theorem dX2_nextInOrder_27 : decode cX2_nextInOrder 27 = .ok (.invokevirtual 43, 3) := by decide +kernel
theorem dX2_nextInOrder_30 : decode cX2_nextInOrder 30 = .ok (.checkcast 47, 3) := by decide +kernel
theorem dX2_nextInOrder_33 : decode cX2_nextInOrder 33 = .ok (.astore 5, 2) := by decide +kernel
theorem dX2_nextInOrder_35 : decode cX2_nextInOrder 35 = .ok (.aload 5, 2) := by decide +kernel
theorem dX2_nextInOrder_37 : decode cX2_nextInOrder 37 = .ok (.getfield 162, 3) := by decide +kernel
theorem dX2_nextInOrder_40 : decode cX2_nextInOrder 40 = .ok (.iconst (-1), 1) := by decide +kernel
theorem dX2_nextInOrder_41 : decode cX2_nextInOrder 41 = .ok (.if_icmp .eq 7, 3) := by decide +kernel
theorem dX2_nextInOrder_44 : decode cX2_nextInOrder 44 = .ok (.iconst 1, 1) := by decide +kernel
theorem dX2_nextInOrder_45 : decode cX2_nextInOrder 45 = .ok (.goto 4, 3) := by decide +kernel
theorem dX2_nextInOrder_48 : decode cX2_nextInOrder 48 = .ok (.iconst 0, 1) := by decide +kernel
theorem dX2_nextInOrder_49 : decode cX2_nextInOrder 49 = .ok (.istore 6, 2) := by decide +kernel
theorem dX2_nextInOrder_51 : decode cX2_nextInOrder 51 = .ok (.iload 6, 2) := by decide +kernel
theorem dX2_nextInOrder_53 : decode cX2_nextInOrder 53 = .ok (.ifCond .eq 31, 3) := by decide +kernel
theorem dX2_nextInOrder_56 : decode cX2_nextInOrder 56 = .ok (.aload 5, 2) := by decide +kernel
theorem dX2_nextInOrder_58 : decode cX2_nextInOrder 58 = .ok (.getfield 162, 3) := by decide +kernel
theorem dX2_nextInOrder_61 : decode cX2_nextInOrder 61 = .ok (.iload_n 3, 1) := by decide +kernel
theorem dX2_nextInOrder_62 : decode cX2_nextInOrder 62 = .ok (.if_icmp .ge 22, 3) := by decide +kernel
theorem dX2_nextInOrder_65 : decode cX2_nextInOrder 65 = .ok (.aload_n 0, 1) := by decide +kernel
theorem dX2_nextInOrder_66 : decode cX2_nextInOrder 66 = .ok (.aload 5, 2) := by decide +kernel
theorem dX2_nextInOrder_68 : decode cX2_nextInOrder 68 = .ok (.invokevirtual 141, 3) := by decide +kernel
theorem dX2_nextInOrder_71 : decode cX2_nextInOrder 71 = .ok (.iconst (-1), 1) := by decide +kernel
theorem dX2_nextInOrder_72 : decode cX2_nextInOrder 72 = .ok (.if_icmp .ne 12, 3) := by decide +kernel
theorem dX2_nextInOrder_75 : decode cX2_nextInOrder 75 = .ok (.iload 4, 2) := by decide +kernel
theorem dX2_nextInOrder_77 : decode cX2_nextInOrder 77 = .ok (.istore_n 2, 1) := by decide +kernel
theorem dX2_nextInOrder_78 : decode cX2_nextInOrder 78 = .ok (.aload 5, 2) := by decide +kernel
theorem dX2_nextInOrder_80 : decode cX2_nextInOrder 80 = .ok (.getfield 162, 3) := by decide +kernel
theorem dX2_nextInOrder_83 : decode cX2_nextInOrder 83 = .ok (.istore_n 3, 1) := by decide +kernel
theorem dX2_nextInOrder_84 : decode cX2_nextInOrder 84 = .ok (.iinc 4 1, 3) := by decide +kernel
theorem dX2_nextInOrder_87 : decode cX2_nextInOrder 87 = .ok (.goto (-78), 3) := by decide +kernel
theorem dX2_nextInOrder_90 : decode cX2_nextInOrder 90 = .ok (.iload_n 2, 1) := by decide +kernel
theorem dX2_nextInOrder_91 : decode cX2_nextInOrder 91 = .ok (.ireturn, 1) := by decide +kernel
theorem dX2_effortsDueOn_0 : decode cX2_effortsDueOn 0 = .ok (.iconst 0, 1) := by decide +kernel
theorem dX2_effortsDueOn_1 : decode cX2_effortsDueOn 1 = .ok (.istore_n 2, 1) := by decide +kernel
theorem dX2_effortsDueOn_2 : decode cX2_effortsDueOn 2 = .ok (.iconst 0, 1) := by decide +kernel
theorem dX2_effortsDueOn_3 : decode cX2_effortsDueOn 3 = .ok (.istore_n 3, 1) := by decide +kernel
theorem dX2_effortsDueOn_4 : decode cX2_effortsDueOn 4 = .ok (.iload_n 3, 1) := by decide +kernel
theorem dX2_effortsDueOn_5 : decode cX2_effortsDueOn 5 = .ok (.aload_n 0, 1) := by decide +kernel
theorem dX2_effortsDueOn_6 : decode cX2_effortsDueOn 6 = .ok (.getfield 19, 3) := by decide +kernel
theorem dX2_effortsDueOn_9 : decode cX2_effortsDueOn 9 = .ok (.invokevirtual 39, 3) := by decide +kernel
theorem dX2_effortsDueOn_12 : decode cX2_effortsDueOn 12 = .ok (.if_icmp .ge 39, 3) := by decide +kernel
theorem dX2_effortsDueOn_15 : decode cX2_effortsDueOn 15 = .ok (.aload_n 0, 1) := by decide +kernel
theorem dX2_effortsDueOn_16 : decode cX2_effortsDueOn 16 = .ok (.getfield 19, 3) := by decide +kernel
theorem dX2_effortsDueOn_19 : decode cX2_effortsDueOn 19 = .ok (.iload_n 3, 1) := by decide +kernel
theorem dX2_effortsDueOn_20 : decode cX2_effortsDueOn 20 = .ok (.invokevirtual 43, 3) := by decide +kernel
theorem dX2_effortsDueOn_23 : decode cX2_effortsDueOn 23 = .ok (.checkcast 47, 3) := by decide +kernel
theorem dX2_effortsDueOn_26 : decode cX2_effortsDueOn 26 = .ok (.astore 4, 2) := by decide +kernel
theorem dX2_effortsDueOn_28 : decode cX2_effortsDueOn 28 = .ok (.aload 4, 2) := by decide +kernel
theorem dX2_effortsDueOn_30 : decode cX2_effortsDueOn 30 = .ok (.iload_n 1, 1) := by decide +kernel
theorem dX2_effortsDueOn_31 : decode cX2_effortsDueOn 31 = .ok (.invokevirtual 127, 3) := by decide +kernel
theorem dX2_effortsDueOn_34 : decode cX2_effortsDueOn 34 = .ok (.ifCond .eq 11, 3) := by decide +kernel
theorem dX2_effortsDueOn_37 : decode cX2_effortsDueOn 37 = .ok (.iload_n 2, 1) := by decide +kernel
theorem dX2_effortsDueOn_38 : decode cX2_effortsDueOn 38 = .ok (.aload 4, 2) := by decide +kernel
theorem dX2_effortsDueOn_40 : decode cX2_effortsDueOn 40 = .ok (.getfield 200, 3) := by decide +kernel
theorem dX2_effortsDueOn_43 : decode cX2_effortsDueOn 43 = .ok (.iadd, 1) := by decide +kernel
theorem dX2_effortsDueOn_44 : decode cX2_effortsDueOn 44 = .ok (.istore_n 2, 1) := by decide +kernel
theorem dX2_effortsDueOn_45 : decode cX2_effortsDueOn 45 = .ok (.iinc 3 1, 3) := by decide +kernel
theorem dX2_effortsDueOn_48 : decode cX2_effortsDueOn 48 = .ok (.goto (-44), 3) := by decide +kernel
theorem dX2_effortsDueOn_51 : decode cX2_effortsDueOn 51 = .ok (.iload_n 2, 1) := by decide +kernel
theorem dX2_effortsDueOn_52 : decode cX2_effortsDueOn 52 = .ok (.ireturn, 1) := by decide +kernel
theorem dX2_layEfforts_0 : decode cX2_layEfforts 0 = .ok (.aload_n 0, 1) := by decide +kernel
theorem dX2_layEfforts_1 : decode cX2_layEfforts 1 = .ok (.getfield 27, 3) := by decide +kernel
theorem dX2_layEfforts_4 : decode cX2_layEfforts 4 = .ok (.iconst 0, 1) := by decide +kernel
theorem dX2_layEfforts_5 : decode cX2_layEfforts 5 = .ok (.invokestatic 203, 3) := by decide +kernel
theorem dX2_layEfforts_8 : decode cX2_layEfforts 8 = .ok (.iconst 0, 1) := by decide +kernel
theorem dX2_layEfforts_9 : decode cX2_layEfforts 9 = .ok (.istore 4, 2) := by decide +kernel
theorem dX2_layEfforts_11 : decode cX2_layEfforts 11 = .ok (.iload_n 1, 1) := by decide +kernel
theorem dX2_layEfforts_12 : decode cX2_layEfforts 12 = .ok (.istore 5, 2) := by decide +kernel
theorem dX2_layEfforts_14 : decode cX2_layEfforts 14 = .ok (.iload 5, 2) := by decide +kernel
theorem dX2_layEfforts_16 : decode cX2_layEfforts 16 = .ok (.iload_n 2, 1) := by decide +kernel
theorem dX2_layEfforts_17 : decode cX2_layEfforts 17 = .ok (.if_icmp .gt 80, 3) := by decide +kernel
theorem dX2_layEfforts_20 : decode cX2_layEfforts 20 = .ok (.iconst 0, 1) := by decide +kernel
theorem dX2_layEfforts_21 : decode cX2_layEfforts 21 = .ok (.istore 6, 2) := by decide +kernel
theorem dX2_layEfforts_23 : decode cX2_layEfforts 23 = .ok (.iload 6, 2) := by decide +kernel
theorem dX2_layEfforts_25 : decode cX2_layEfforts 25 = .ok (.aload_n 0, 1) := by decide +kernel
theorem dX2_layEfforts_26 : decode cX2_layEfforts 26 = .ok (.getfield 19, 3) := by decide +kernel
theorem dX2_layEfforts_29 : decode cX2_layEfforts 29 = .ok (.invokevirtual 39, 3) := by decide +kernel
theorem dX2_layEfforts_32 : decode cX2_layEfforts 32 = .ok (.if_icmp .ge 59, 3) := by decide +kernel
theorem dX2_layEfforts_35 : decode cX2_layEfforts 35 = .ok (.aload_n 0, 1) := by decide +kernel
theorem dX2_layEfforts_36 : decode cX2_layEfforts 36 = .ok (.getfield 19, 3) := by decide +kernel
theorem dX2_layEfforts_39 : decode cX2_layEfforts 39 = .ok (.iload 6, 2) := by decide +kernel
theorem dX2_layEfforts_41 : decode cX2_layEfforts 41 = .ok (.invokevirtual 43, 3) := by decide +kernel
theorem dX2_layEfforts_44 : decode cX2_layEfforts 44 = .ok (.checkcast 47, 3) := by decide +kernel
theorem dX2_layEfforts_47 : decode cX2_layEfforts 47 = .ok (.astore 7, 2) := by decide +kernel
theorem dX2_layEfforts_49 : decode cX2_layEfforts 49 = .ok (.aload 7, 2) := by decide +kernel
theorem dX2_layEfforts_51 : decode cX2_layEfforts 51 = .ok (.iload 5, 2) := by decide +kernel
theorem dX2_layEfforts_53 : decode cX2_layEfforts 53 = .ok (.invokevirtual 127, 3) := by decide +kernel
theorem dX2_layEfforts_56 : decode cX2_layEfforts 56 = .ok (.ifCond .eq 29, 3) := by decide +kernel
theorem dX2_layEfforts_59 : decode cX2_layEfforts 59 = .ok (.aload_n 0, 1) := by decide +kernel
theorem dX2_layEfforts_60 : decode cX2_layEfforts 60 = .ok (.iload_n 1, 1) := by decide +kernel
theorem dX2_layEfforts_61 : decode cX2_layEfforts 61 = .ok (.iload 5, 2) := by decide +kernel
theorem dX2_layEfforts_63 : decode cX2_layEfforts 63 = .ok (.iload_n 3, 1) := by decide +kernel
theorem dX2_layEfforts_64 : decode cX2_layEfforts 64 = .ok (.aload 7, 2) := by decide +kernel
theorem dX2_layEfforts_66 : decode cX2_layEfforts 66 = .ok (.getfield 200, 3) := by decide +kernel
theorem dX2_layEfforts_69 : decode cX2_layEfforts 69 = .ok (.invokevirtual 209, 3) := by decide +kernel
theorem dX2_layEfforts_72 : decode cX2_layEfforts 72 = .ok (.ifCond .ne 13, 3) := by decide +kernel
theorem dX2_layEfforts_75 : decode cX2_layEfforts 75 = .ok (.iload 4, 2) := by decide +kernel
theorem dX2_layEfforts_77 : decode cX2_layEfforts 77 = .ok (.aload 7, 2) := by decide +kernel
theorem dX2_layEfforts_79 : decode cX2_layEfforts 79 = .ok (.getfield 200, 3) := by decide +kernel
theorem dX2_layEfforts_82 : decode cX2_layEfforts 82 = .ok (.iadd, 1) := by decide +kernel
theorem dX2_layEfforts_83 : decode cX2_layEfforts 83 = .ok (.istore 4, 2) := by decide +kernel
theorem dX2_layEfforts_85 : decode cX2_layEfforts 85 = .ok (.iinc 6 1, 3) := by decide +kernel
theorem dX2_layEfforts_88 : decode cX2_layEfforts 88 = .ok (.goto (-65), 3) := by decide +kernel
theorem dX2_layEfforts_91 : decode cX2_layEfforts 91 = .ok (.iinc 5 1, 3) := by decide +kernel
theorem dX2_layEfforts_94 : decode cX2_layEfforts 94 = .ok (.goto (-80), 3) := by decide +kernel
theorem dX2_layEfforts_97 : decode cX2_layEfforts 97 = .ok (.iload 4, 2) := by decide +kernel
theorem dX2_layEfforts_99 : decode cX2_layEfforts 99 = .ok (.ireturn, 1) := by decide +kernel
theorem dX2_layEffort_0 : decode cX2_layEffort 0 = .ok (.iload_n 2, 1) := by decide +kernel
theorem dX2_layEffort_1 : decode cX2_layEffort 1 = .ok (.istore 5, 2) := by decide +kernel
theorem dX2_layEffort_3 : decode cX2_layEffort 3 = .ok (.iload 5, 2) := by decide +kernel
theorem dX2_layEffort_5 : decode cX2_layEffort 5 = .ok (.iload_n 1, 1) := by decide +kernel
theorem dX2_layEffort_6 : decode cX2_layEffort 6 = .ok (.if_icmp .lt 49, 3) := by decide +kernel
theorem dX2_layEffort_9 : decode cX2_layEffort 9 = .ok (.aload_n 0, 1) := by decide +kernel
theorem dX2_layEffort_10 : decode cX2_layEffort 10 = .ok (.getfield 12, 3) := by decide +kernel
theorem dX2_layEffort_13 : decode cX2_layEffort 13 = .ok (.iload 5, 2) := by decide +kernel
theorem dX2_layEffort_15 : decode cX2_layEffort 15 = .ok (.invokevirtual 53, 3) := by decide +kernel
theorem dX2_layEffort_18 : decode cX2_layEffort 18 = .ok (.ifCond .eq 31, 3) := by decide +kernel
theorem dX2_layEffort_21 : decode cX2_layEffort 21 = .ok (.aload_n 0, 1) := by decide +kernel
theorem dX2_layEffort_22 : decode cX2_layEffort 22 = .ok (.getfield 27, 3) := by decide +kernel
theorem dX2_layEffort_25 : decode cX2_layEffort 25 = .ok (.iload 5, 2) := by decide +kernel
theorem dX2_layEffort_27 : decode cX2_layEffort 27 = .ok (.iaload, 1) := by decide +kernel
theorem dX2_layEffort_28 : decode cX2_layEffort 28 = .ok (.iload 4, 2) := by decide +kernel
theorem dX2_layEffort_30 : decode cX2_layEffort 30 = .ok (.iadd, 1) := by decide +kernel
theorem dX2_layEffort_31 : decode cX2_layEffort 31 = .ok (.iload_n 3, 1) := by decide +kernel
theorem dX2_layEffort_32 : decode cX2_layEffort 32 = .ok (.if_icmp .gt 17, 3) := by decide +kernel
theorem dX2_layEffort_35 : decode cX2_layEffort 35 = .ok (.aload_n 0, 1) := by decide +kernel
theorem dX2_layEffort_36 : decode cX2_layEffort 36 = .ok (.getfield 27, 3) := by decide +kernel
theorem dX2_layEffort_39 : decode cX2_layEffort 39 = .ok (.iload 5, 2) := by decide +kernel
theorem dX2_layEffort_41 : decode cX2_layEffort 41 = .ok (.dup2, 1) := by decide +kernel
theorem dX2_layEffort_42 : decode cX2_layEffort 42 = .ok (.iaload, 1) := by decide +kernel
theorem dX2_layEffort_43 : decode cX2_layEffort 43 = .ok (.iload 4, 2) := by decide +kernel
theorem dX2_layEffort_45 : decode cX2_layEffort 45 = .ok (.iadd, 1) := by decide +kernel
theorem dX2_layEffort_46 : decode cX2_layEffort 46 = .ok (.iastore, 1) := by decide +kernel
theorem dX2_layEffort_47 : decode cX2_layEffort 47 = .ok (.iconst 1, 1) := by decide +kernel
theorem dX2_layEffort_48 : decode cX2_layEffort 48 = .ok (.ireturn, 1) := by decide +kernel
theorem dX2_layEffort_49 : decode cX2_layEffort 49 = .ok (.iinc 5 (-1), 3) := by decide +kernel
theorem dX2_layEffort_52 : decode cX2_layEffort 52 = .ok (.goto (-49), 3) := by decide +kernel
theorem dX2_layEffort_55 : decode cX2_layEffort 55 = .ok (.iconst 0, 1) := by decide +kernel
theorem dX2_layEffort_56 : decode cX2_layEffort 56 = .ok (.ireturn, 1) := by decide +kernel
theorem dX3_init_0 : decode cX3_init 0 = .ok (.aload_n 0, 1) := by decide +kernel
theorem dX3_init_1 : decode cX3_init 1 = .ok (.invokespecial 1, 3) := by decide +kernel
theorem dX3_init_4 : decode cX3_init 4 = .ok (.aload_n 0, 1) := by decide +kernel
theorem dX3_init_5 : decode cX3_init 5 = .ok (.sipush 720, 3) := by decide +kernel
theorem dX3_init_8 : decode cX3_init 8 = .ok (.newarray .boolean, 2) := by decide +kernel
theorem dX3_init_10 : decode cX3_init 10 = .ok (.putfield 7, 3) := by decide +kernel
theorem dX3_init_13 : decode cX3_init 13 = .ok (.aload_n 0, 1) := by decide +kernel
theorem dX3_init_14 : decode cX3_init 14 = .ok (.bipush 8, 2) := by decide +kernel
theorem dX3_init_16 : decode cX3_init 16 = .ok (.newarray .int, 2) := by decide +kernel
theorem dX3_init_18 : decode cX3_init 18 = .ok (.putfield 13, 3) := by decide +kernel
theorem dX3_init_21 : decode cX3_init 21 = .ok (.aload_n 0, 1) := by decide +kernel
theorem dX3_init_22 : decode cX3_init 22 = .ok (.bipush 8, 2) := by decide +kernel
theorem dX3_init_24 : decode cX3_init 24 = .ok (.newarray .int, 2) := by decide +kernel
theorem dX3_init_26 : decode cX3_init 26 = .ok (.putfield 17, 3) := by decide +kernel
theorem dX3_init_29 : decode cX3_init 29 = .ok (.aload_n 0, 1) := by decide +kernel
theorem dX3_init_30 : decode cX3_init 30 = .ok (.bipush 8, 2) := by decide +kernel
theorem dX3_init_32 : decode cX3_init 32 = .ok (.newarray .int, 2) := by decide +kernel
theorem dX3_init_34 : decode cX3_init 34 = .ok (.putfield 20, 3) := by decide +kernel
theorem dX3_init_37 : decode cX3_init 37 = .ok (.aload_n 0, 1) := by decide +kernel
theorem dX3_init_38 : decode cX3_init 38 = .ok (.bipush 8, 2) := by decide +kernel
theorem dX3_init_40 : decode cX3_init 40 = .ok (.newarray .int, 2) := by decide +kernel
theorem dX3_init_42 : decode cX3_init 42 = .ok (.putfield 23, 3) := by decide +kernel
theorem dX3_init_45 : decode cX3_init 45 = .ok (.aload_n 0, 1) := by decide +kernel
theorem dX3_init_46 : decode cX3_init 46 = .ok (.bipush 8, 2) := by decide +kernel
theorem dX3_init_48 : decode cX3_init 48 = .ok (.newarray .int, 2) := by decide +kernel
theorem dX3_init_50 : decode cX3_init 50 = .ok (.putfield 26, 3) := by decide +kernel
theorem dX3_init_53 : decode cX3_init 53 = .ok (.aload_n 0, 1) := by decide +kernel
theorem dX3_init_54 : decode cX3_init 54 = .ok (.bipush 8, 2) := by decide +kernel
theorem dX3_init_56 : decode cX3_init 56 = .ok (.newarray .int, 2) := by decide +kernel
theorem dX3_init_58 : decode cX3_init 58 = .ok (.putfield 29, 3) := by decide +kernel
theorem dX3_init_61 : decode cX3_init 61 = .ok (.aload_n 0, 1) := by decide +kernel
theorem dX3_init_62 : decode cX3_init 62 = .ok (.bipush 8, 2) := by decide +kernel
theorem dX3_init_64 : decode cX3_init 64 = .ok (.newarray .int, 2) := by decide +kernel
theorem dX3_init_66 : decode cX3_init 66 = .ok (.putfield 32, 3) := by decide +kernel
theorem dX3_init_69 : decode cX3_init 69 = .ok (.aload_n 0, 1) := by decide +kernel
theorem dX3_init_70 : decode cX3_init 70 = .ok (.bipush 8, 2) := by decide +kernel
theorem dX3_init_72 : decode cX3_init 72 = .ok (.newarray .int, 2) := by decide +kernel
theorem dX3_init_74 : decode cX3_init 74 = .ok (.putfield 35, 3) := by decide +kernel
theorem dX3_init_77 : decode cX3_init 77 = .ok (.aload_n 0, 1) := by decide +kernel
theorem dX3_init_78 : decode cX3_init 78 = .ok (.bipush 64, 2) := by decide +kernel
theorem dX3_init_80 : decode cX3_init 80 = .ok (.newarray .boolean, 2) := by decide +kernel
theorem dX3_init_82 : decode cX3_init 82 = .ok (.putfield 38, 3) := by decide +kernel
theorem dX3_init_85 : decode cX3_init 85 = .ok (.aload_n 0, 1) := by decide +kernel
theorem dX3_init_86 : decode cX3_init 86 = .ok (.sipush 5760, 3) := by decide +kernel
theorem dX3_init_89 : decode cX3_init 89 = .ok (.newarray .boolean, 2) := by decide +kernel
theorem dX3_init_91 : decode cX3_init 91 = .ok (.putfield 41, 3) := by decide +kernel
theorem dX3_init_94 : decode cX3_init 94 = .ok (.aload_n 0, 1) := by decide +kernel
theorem dX3_init_95 : decode cX3_init 95 = .ok (.sipush 5760, 3) := by decide +kernel
theorem dX3_init_98 : decode cX3_init 98 = .ok (.newarray .int, 2) := by decide +kernel
theorem dX3_init_100 : decode cX3_init 100 = .ok (.putfield 44, 3) := by decide +kernel
theorem dX3_init_103 : decode cX3_init 103 = .ok (.aload_n 0, 1) := by decide +kernel
theorem dX3_init_104 : decode cX3_init 104 = .ok (.bipush 8, 2) := by decide +kernel
theorem dX3_init_106 : decode cX3_init 106 = .ok (.newarray .int, 2) := by decide +kernel
theorem dX3_init_108 : decode cX3_init 108 = .ok (.putfield 47, 3) := by decide +kernel
theorem dX3_init_111 : decode cX3_init 111 = .ok (.aload_n 0, 1) := by decide +kernel
theorem dX3_init_112 : decode cX3_init 112 = .ok (.bipush 8, 2) := by decide +kernel
theorem dX3_init_114 : decode cX3_init 114 = .ok (.newarray .int, 2) := by decide +kernel
theorem dX3_init_116 : decode cX3_init 116 = .ok (.putfield 50, 3) := by decide +kernel
theorem dX3_init_119 : decode cX3_init 119 = .ok (.aload_n 0, 1) := by decide +kernel
theorem dX3_init_120 : decode cX3_init 120 = .ok (.sipush 720, 3) := by decide +kernel
theorem dX3_init_123 : decode cX3_init 123 = .ok (.newarray .int, 2) := by decide +kernel
theorem dX3_init_125 : decode cX3_init 125 = .ok (.putfield 53, 3) := by decide +kernel
theorem dX3_init_128 : decode cX3_init 128 = .ok (.iconst 0, 1) := by decide +kernel
theorem dX3_init_129 : decode cX3_init 129 = .ok (.istore_n 1, 1) := by decide +kernel
theorem dX3_init_130 : decode cX3_init 130 = .ok (.iload_n 1, 1) := by decide +kernel
theorem dX3_init_131 : decode cX3_init 131 = .ok (.bipush 8, 2) := by decide +kernel
theorem dX3_init_133 : decode cX3_init 133 = .ok (.if_icmp .ge 16, 3) := by decide +kernel
theorem dX3_init_136 : decode cX3_init 136 = .ok (.aload_n 0, 1) := by decide +kernel
theorem dX3_init_137 : decode cX3_init 137 = .ok (.getfield 35, 3) := by decide +kernel
theorem dX3_init_140 : decode cX3_init 140 = .ok (.iload_n 1, 1) := by decide +kernel
theorem dX3_init_141 : decode cX3_init 141 = .ok (.iconst (-1), 1) := by decide +kernel
theorem dX3_init_142 : decode cX3_init 142 = .ok (.iastore, 1) := by decide +kernel
theorem dX3_init_143 : decode cX3_init 143 = .ok (.iinc 1 1, 3) := by decide +kernel
theorem dX3_init_146 : decode cX3_init 146 = .ok (.goto (-16), 3) := by decide +kernel
theorem dX3_init_149 : decode cX3_init 149 = .ok (.return_, 1) := by decide +kernel
theorem dX3_thrown_0 : decode cX3_thrown 0 = .ok (.aload_n 0, 1) := by decide +kernel
theorem dX3_thrown_1 : decode cX3_thrown 1 = .ok (.getfield 56, 3) := by decide +kernel
theorem dX3_thrown_4 : decode cX3_thrown 4 = .ok (.ireturn, 1) := by decide +kernel
theorem dX3_fails_0 : decode cX3_fails 0 = .ok (.aload_n 0, 1) := by decide +kernel
theorem dX3_fails_1 : decode cX3_fails 1 = .ok (.iload_n 1, 1) := by decide +kernel
theorem dX3_fails_2 : decode cX3_fails 2 = .ok (.putfield 56, 3) := by decide +kernel
theorem dX3_fails_5 : decode cX3_fails 5 = .ok (.iconst 0, 1) := by decide +kernel
theorem dX3_fails_6 : decode cX3_fails 6 = .ok (.ireturn, 1) := by decide +kernel
theorem dX3_in_0 : decode cX3_in 0 = .ok (.iload_n 0, 1) := by decide +kernel
theorem dX3_in_1 : decode cX3_in 1 = .ok (.iload_n 1, 1) := by decide +kernel
theorem dX3_in_2 : decode cX3_in 2 = .ok (.if_icmp .lt 12, 3) := by decide +kernel
theorem dX3_in_5 : decode cX3_in 5 = .ok (.iload_n 0, 1) := by decide +kernel
theorem dX3_in_6 : decode cX3_in 6 = .ok (.iload_n 2, 1) := by decide +kernel
theorem dX3_in_7 : decode cX3_in 7 = .ok (.if_icmp .gt 7, 3) := by decide +kernel
theorem dX3_in_10 : decode cX3_in 10 = .ok (.iconst 1, 1) := by decide +kernel
theorem dX3_in_11 : decode cX3_in 11 = .ok (.goto 4, 3) := by decide +kernel
theorem dX3_in_14 : decode cX3_in 14 = .ok (.iconst 0, 1) := by decide +kernel
theorem dX3_in_15 : decode cX3_in 15 = .ok (.ireturn, 1) := by decide +kernel
theorem dX3_isDay_0 : decode cX3_isDay 0 = .ok (.iload_n 0, 1) := by decide +kernel
theorem dX3_isDay_1 : decode cX3_isDay 1 = .ok (.iconst 0, 1) := by decide +kernel
theorem dX3_isDay_2 : decode cX3_isDay 2 = .ok (.sipush 719, 3) := by decide +kernel
theorem dX3_isDay_5 : decode cX3_isDay 5 = .ok (.invokestatic 60, 3) := by decide +kernel
theorem dX3_isDay_8 : decode cX3_isDay 8 = .ok (.ireturn, 1) := by decide +kernel
theorem dX3_isRule_0 : decode cX3_isRule 0 = .ok (.iload_n 1, 1) := by decide +kernel
theorem dX3_isRule_1 : decode cX3_isRule 1 = .ok (.iconst 0, 1) := by decide +kernel
theorem dX3_isRule_2 : decode cX3_isRule 2 = .ok (.aload_n 0, 1) := by decide +kernel
theorem dX3_isRule_3 : decode cX3_isRule 3 = .ok (.getfield 64, 3) := by decide +kernel
theorem dX3_isRule_6 : decode cX3_isRule 6 = .ok (.iconst 1, 1) := by decide +kernel
theorem dX3_isRule_7 : decode cX3_isRule 7 = .ok (.isub, 1) := by decide +kernel
theorem dX3_isRule_8 : decode cX3_isRule 8 = .ok (.invokestatic 60, 3) := by decide +kernel
theorem dX3_isRule_11 : decode cX3_isRule 11 = .ok (.ireturn, 1) := by decide +kernel
theorem dX3_works_0 : decode cX3_works 0 = .ok (.iload_n 1, 1) := by decide +kernel
theorem dX3_works_1 : decode cX3_works 1 = .ok (.bipush 7, 2) := by decide +kernel
theorem dX3_works_3 : decode cX3_works 3 = .ok (.irem, 1) := by decide +kernel
theorem dX3_works_4 : decode cX3_works 4 = .ok (.iconst 5, 1) := by decide +kernel
theorem dX3_works_5 : decode cX3_works 5 = .ok (.if_icmp .ge 16, 3) := by decide +kernel
theorem dX3_works_8 : decode cX3_works 8 = .ok (.aload_n 0, 1) := by decide +kernel
theorem dX3_works_9 : decode cX3_works 9 = .ok (.getfield 7, 3) := by decide +kernel
theorem dX3_works_12 : decode cX3_works 12 = .ok (.iload_n 1, 1) := by decide +kernel
theorem dX3_works_13 : decode cX3_works 13 = .ok (.baload, 1) := by decide +kernel
theorem dX3_works_14 : decode cX3_works 14 = .ok (.ifCond .ne 7, 3) := by decide +kernel
theorem dX3_works_17 : decode cX3_works 17 = .ok (.iconst 1, 1) := by decide +kernel
theorem dX3_works_18 : decode cX3_works 18 = .ok (.goto 4, 3) := by decide +kernel
theorem dX3_works_21 : decode cX3_works 21 = .ok (.iconst 0, 1) := by decide +kernel
theorem dX3_works_22 : decode cX3_works 22 = .ok (.ireturn, 1) := by decide +kernel
theorem dX3_holiday_0 : decode cX3_holiday 0 = .ok (.aload_n 0, 1) := by decide +kernel
theorem dX3_holiday_1 : decode cX3_holiday 1 = .ok (.iload_n 1, 1) := by decide +kernel
theorem dX3_holiday_2 : decode cX3_holiday 2 = .ok (.invokestatic 67, 3) := by decide +kernel
theorem dX3_holiday_5 : decode cX3_holiday 5 = .ok (.ifCond .eq 7, 3) := by decide +kernel
theorem dX3_holiday_8 : decode cX3_holiday 8 = .ok (.iconst 0, 1) := by decide +kernel
theorem dX3_holiday_9 : decode cX3_holiday 9 = .ok (.goto 4, 3) := by decide +kernel
theorem dX3_holiday_12 : decode cX3_holiday 12 = .ok (.iconst 1, 1) := by decide +kernel
theorem dX3_holiday_13 : decode cX3_holiday 13 = .ok (.putfield 56, 3) := by decide +kernel
theorem dX3_holiday_16 : decode cX3_holiday 16 = .ok (.aload_n 0, 1) := by decide +kernel
theorem dX3_holiday_17 : decode cX3_holiday 17 = .ok (.getfield 56, 3) := by decide +kernel
theorem dX3_holiday_20 : decode cX3_holiday 20 = .ok (.ifCond .le 5, 3) := by decide +kernel
theorem dX3_holiday_23 : decode cX3_holiday 23 = .ok (.iconst 0, 1) := by decide +kernel
theorem dX3_holiday_24 : decode cX3_holiday 24 = .ok (.ireturn, 1) := by decide +kernel
theorem dX3_holiday_25 : decode cX3_holiday 25 = .ok (.aload_n 0, 1) := by decide +kernel
theorem dX3_holiday_26 : decode cX3_holiday 26 = .ok (.getfield 7, 3) := by decide +kernel
theorem dX3_holiday_29 : decode cX3_holiday 29 = .ok (.iload_n 1, 1) := by decide +kernel
theorem dX3_holiday_30 : decode cX3_holiday 30 = .ok (.aload_n 0, 1) := by decide +kernel
theorem dX3_holiday_31 : decode cX3_holiday 31 = .ok (.getfield 7, 3) := by decide +kernel
theorem dX3_holiday_34 : decode cX3_holiday 34 = .ok (.iload_n 1, 1) := by decide +kernel
theorem dX3_holiday_35 : decode cX3_holiday 35 = .ok (.baload, 1) := by decide +kernel
theorem dX3_holiday_36 : decode cX3_holiday 36 = .ok (.ifCond .ne 7, 3) := by decide +kernel
theorem dX3_holiday_39 : decode cX3_holiday 39 = .ok (.iconst 1, 1) := by decide +kernel
theorem dX3_holiday_40 : decode cX3_holiday 40 = .ok (.goto 4, 3) := by decide +kernel
theorem dX3_holiday_43 : decode cX3_holiday 43 = .ok (.iconst 0, 1) := by decide +kernel
theorem dX3_holiday_44 : decode cX3_holiday 44 = .ok (.bastore, 1) := by decide +kernel
theorem dX3_holiday_45 : decode cX3_holiday 45 = .ok (.aload_n 0, 1) := by decide +kernel
theorem dX3_holiday_46 : decode cX3_holiday 46 = .ok (.getfield 7, 3) := by decide +kernel
theorem dX3_holiday_49 : decode cX3_holiday 49 = .ok (.iload_n 1, 1) := by decide +kernel
theorem dX3_holiday_50 : decode cX3_holiday 50 = .ok (.baload, 1) := by decide +kernel
theorem dX3_holiday_51 : decode cX3_holiday 51 = .ok (.ireturn, 1) := by decide +kernel
theorem dX3_isWorking_0 : decode cX3_isWorking 0 = .ok (.aload_n 0, 1) := by decide +kernel
theorem dX3_isWorking_1 : decode cX3_isWorking 1 = .ok (.iload_n 1, 1) := by decide +kernel
theorem dX3_isWorking_2 : decode cX3_isWorking 2 = .ok (.invokestatic 67, 3) := by decide +kernel
theorem dX3_isWorking_5 : decode cX3_isWorking 5 = .ok (.ifCond .eq 7, 3) := by decide +kernel
theorem dX3_isWorking_8 : decode cX3_isWorking 8 = .ok (.iconst 0, 1) := by decide +kernel
theorem dX3_isWorking_9 : decode cX3_isWorking 9 = .ok (.goto 4, 3) := by decide +kernel
theorem dX3_isWorking_12 : decode cX3_isWorking 12 = .ok (.iconst 1, 1) := by decide +kernel
theorem dX3_isWorking_13 : decode cX3_isWorking 13 = .ok (.putfield 56, 3) := by decide +kernel
theorem dX3_isWorking_16 : decode cX3_isWorking 16 = .ok (.aload_n 0, 1) := by decide +kernel
theorem dX3_isWorking_17 : decode cX3_isWorking 17 = .ok (.getfield 56, 3) := by decide +kernel
theorem dX3_isWorking_20 : decode cX3_isWorking 20 = .ok (.ifCond .ne 15, 3) := by decide +kernel
theorem dX3_isWorking_23 : decode cX3_isWorking 23 = .ok (.aload_n 0, 1) := by decide +kernel
theorem dX3_isWorking_24 : decode cX3_isWorking 24 = .ok (.iload_n 1, 1) := by decide +kernel
theorem dX3_isWorking_25 : decode cX3_isWorking 25 = .ok (.invokevirtual 71, 3) := by decide +kernel
theorem dX3_isWorking_28 : decode cX3_isWorking 28 = .ok (.ifCond .eq 7, 3) := by decide +kernel
theorem dX3_isWorking_31 : decode cX3_isWorking 31 = .ok (.iconst 1, 1) := by decide +kernel
theorem dX3_isWorking_32 : decode cX3_isWorking 32 = .ok (.goto 4, 3) := by decide +kernel
theorem dX3_isWorking_35 : decode cX3_isWorking 35 = .ok (.iconst 0, 1) := by decide +kernel
theorem dX3_isWorking_36 : decode cX3_isWorking 36 = .ok (.ireturn, 1) := by decide +kernel
theorem dX3_workingFrom_0 : decode cX3_workingFrom 0 = .ok (.iconst 0, 1) := by decide +kernel
theorem dX3_workingFrom_1 : decode cX3_workingFrom 1 = .ok (.istore_n 3, 1) := by decide +kernel
theorem dX3_workingFrom_2 : decode cX3_workingFrom 2 = .ok (.iload_n 1, 1) := by decide +kernel
theorem dX3_workingFrom_3 : decode cX3_workingFrom 3 = .ok (.istore 4, 2) := by decide +kernel
theorem dX3_workingFrom_5 : decode cX3_workingFrom 5 = .ok (.iload 4, 2) := by decide +kernel
theorem dX3_workingFrom_7 : decode cX3_workingFrom 7 = .ok (.iload_n 2, 1) := by decide +kernel
theorem dX3_workingFrom_8 : decode cX3_workingFrom 8 = .ok (.if_icmp .gt 26, 3) := by decide +kernel
theorem dX3_workingFrom_11 : decode cX3_workingFrom 11 = .ok (.iload_n 3, 1) := by decide +kernel
theorem dX3_workingFrom_12 : decode cX3_workingFrom 12 = .ok (.aload_n 0, 1) := by decide +kernel
theorem dX3_workingFrom_13 : decode cX3_workingFrom 13 = .ok (.iload 4, 2) := by decide +kernel
theorem dX3_workingFrom_15 : decode cX3_workingFrom 15 = .ok (.invokevirtual 71, 3) := by decide +kernel
theorem dX3_workingFrom_18 : decode cX3_workingFrom 18 = .ok (.ifCond .eq 7, 3) := by decide +kernel
theorem dX3_workingFrom_21 : decode cX3_workingFrom 21 = .ok (.iconst 1, 1) := by decide +kernel
theorem dX3_workingFrom_22 : decode cX3_workingFrom 22 = .ok (.goto 4, 3) := by decide +kernel
theorem dX3_workingFrom_25 : decode cX3_workingFrom 25 = .ok (.iconst 0, 1) := by decide +kernel
theorem dX3_workingFrom_26 : decode cX3_workingFrom 26 = .ok (.iadd, 1) := by decide +kernel
theorem dX3_workingFrom_27 : decode cX3_workingFrom 27 = .ok (.istore_n 3, 1) := by decide +kernel
theorem dX3_workingFrom_28 : decode cX3_workingFrom 28 = .ok (.iinc 4 1, 3) := by decide +kernel
theorem dX3_workingFrom_31 : decode cX3_workingFrom 31 = .ok (.goto (-26), 3) := by decide +kernel
theorem dX3_workingFrom_34 : decode cX3_workingFrom 34 = .ok (.iload_n 3, 1) := by decide +kernel
theorem dX3_workingFrom_35 : decode cX3_workingFrom 35 = .ok (.ireturn, 1) := by decide +kernel
theorem dX3_barsSpan_0 : decode cX3_barsSpan 0 = .ok (.iload_n 0, 1) := by decide +kernel
theorem dX3_barsSpan_1 : decode cX3_barsSpan 1 = .ok (.invokestatic 67, 3) := by decide +kernel
theorem dX3_barsSpan_4 : decode cX3_barsSpan 4 = .ok (.ifCond .eq 10, 3) := by decide +kernel
theorem dX3_barsSpan_7 : decode cX3_barsSpan 7 = .ok (.iload_n 1, 1) := by decide +kernel
theorem dX3_barsSpan_8 : decode cX3_barsSpan 8 = .ok (.invokestatic 67, 3) := by decide +kernel
theorem dX3_barsSpan_11 : decode cX3_barsSpan 11 = .ok (.ifCond .ne 7, 3) := by decide +kernel
theorem dX3_barsSpan_14 : decode cX3_barsSpan 14 = .ok (.iconst 1, 1) := by decide +kernel
theorem dX3_barsSpan_15 : decode cX3_barsSpan 15 = .ok (.goto 13, 3) := by decide +kernel
theorem dX3_barsSpan_18 : decode cX3_barsSpan 18 = .ok (.iload_n 1, 1) := by decide +kernel
theorem dX3_barsSpan_19 : decode cX3_barsSpan 19 = .ok (.iload_n 0, 1) := by decide +kernel
theorem dX3_barsSpan_20 : decode cX3_barsSpan 20 = .ok (.if_icmp .ge 7, 3) := by decide +kernel
theorem dX3_barsSpan_23 : decode cX3_barsSpan 23 = .ok (.iconst 2, 1) := by decide +kernel
theorem dX3_barsSpan_24 : decode cX3_barsSpan 24 = .ok (.goto 4, 3) := by decide +kernel
theorem dX3_barsSpan_27 : decode cX3_barsSpan 27 = .ok (.iconst 0, 1) := by decide +kernel
theorem dX3_barsSpan_28 : decode cX3_barsSpan 28 = .ok (.ireturn, 1) := by decide +kernel
theorem dX3_workingDays_0 : decode cX3_workingDays 0 = .ok (.aload_n 0, 1) := by decide +kernel
theorem dX3_workingDays_1 : decode cX3_workingDays 1 = .ok (.iload_n 1, 1) := by decide +kernel
theorem dX3_workingDays_2 : decode cX3_workingDays 2 = .ok (.iload_n 2, 1) := by decide +kernel
theorem dX3_workingDays_3 : decode cX3_workingDays 3 = .ok (.invokestatic 74, 3) := by decide +kernel
theorem dX3_workingDays_6 : decode cX3_workingDays 6 = .ok (.putfield 56, 3) := by decide +kernel
theorem dX3_workingDays_9 : decode cX3_workingDays 9 = .ok (.aload_n 0, 1) := by decide +kernel
theorem dX3_workingDays_10 : decode cX3_workingDays 10 = .ok (.getfield 56, 3) := by decide +kernel
theorem dX3_workingDays_13 : decode cX3_workingDays 13 = .ok (.ifCond .le 7, 3) := by decide +kernel
theorem dX3_workingDays_16 : decode cX3_workingDays 16 = .ok (.iconst 0, 1) := by decide +kernel
theorem dX3_workingDays_17 : decode cX3_workingDays 17 = .ok (.goto 9, 3) := by decide +kernel
theorem dX3_workingDays_20 : decode cX3_workingDays 20 = .ok (.aload_n 0, 1) := by decide +kernel
theorem dX3_workingDays_21 : decode cX3_workingDays 21 = .ok (.iload_n 1, 1) := by decide +kernel
theorem dX3_workingDays_22 : decode cX3_workingDays 22 = .ok (.iload_n 2, 1) := by decide +kernel
theorem dX3_workingDays_23 : decode cX3_workingDays 23 = .ok (.invokevirtual 78, 3) := by decide +kernel
theorem dX3_workingDays_26 : decode cX3_workingDays 26 = .ok (.ireturn, 1) := by decide +kernel
theorem dX3_pass_0 : decode cX3_pass 0 = .ok (.aload_n 0, 1) := by decide +kernel
theorem dX3_pass_1 : decode cX3_pass 1 = .ok (.iload_n 1, 1) := by decide +kernel
theorem dX3_pass_2 : decode cX3_pass 2 = .ok (.iconst 1, 1) := by decide +kernel
theorem dX3_pass_3 : decode cX3_pass 3 = .ok (.bipush 100, 2) := by decide +kernel
theorem dX3_pass_5 : decode cX3_pass 5 = .ok (.invokestatic 60, 3) := by decide +kernel
theorem dX3_pass_8 : decode cX3_pass 8 = .ok (.ifCond .ne 7, 3) := by decide +kernel
theorem dX3_pass_11 : decode cX3_pass 11 = .ok (.iconst 1, 1) := by decide +kernel
theorem dX3_pass_12 : decode cX3_pass 12 = .ok (.goto 20, 3) := by decide +kernel
theorem dX3_pass_15 : decode cX3_pass 15 = .ok (.aload_n 0, 1) := by decide +kernel
theorem dX3_pass_16 : decode cX3_pass 16 = .ok (.getfield 81, 3) := by decide +kernel
theorem dX3_pass_19 : decode cX3_pass 19 = .ok (.iload_n 1, 1) := by decide +kernel
theorem dX3_pass_20 : decode cX3_pass 20 = .ok (.iadd, 1) := by decide +kernel
theorem dX3_pass_21 : decode cX3_pass 21 = .ok (.sipush 720, 3) := by decide +kernel
theorem dX3_pass_24 : decode cX3_pass 24 = .ok (.if_icmp .lt 7, 3) := by decide +kernel
theorem dX3_pass_27 : decode cX3_pass 27 = .ok (.iconst 2, 1) := by decide +kernel
theorem dX3_pass_28 : decode cX3_pass 28 = .ok (.goto 4, 3) := by decide +kernel
theorem dX3_pass_31 : decode cX3_pass 31 = .ok (.iconst 0, 1) := by decide +kernel
theorem dX3_pass_32 : decode cX3_pass 32 = .ok (.putfield 56, 3) := by decide +kernel
theorem dX3_pass_35 : decode cX3_pass 35 = .ok (.aload_n 0, 1) := by decide +kernel
theorem dX3_pass_36 : decode cX3_pass 36 = .ok (.dup, 1) := by decide +kernel
theorem dX3_pass_37 : decode cX3_pass 37 = .ok (.getfield 81, 3) := by decide +kernel
theorem dX3_pass_40 : decode cX3_pass 40 = .ok (.aload_n 0, 1) := by decide +kernel
theorem dX3_pass_41 : decode cX3_pass 41 = .ok (.getfield 56, 3) := by decide +kernel
theorem dX3_pass_44 : decode cX3_pass 44 = .ok (.ifCond .ne 7, 3) := by decide +kernel
theorem dX3_pass_47 : decode cX3_pass 47 = .ok (.iload_n 1, 1) := by decide +kernel
theorem dX3_pass_48 : decode cX3_pass 48 = .ok (.goto 4, 3) := by decide +kernel
theorem dX3_pass_51 : decode cX3_pass 51 = .ok (.iconst 0, 1) := by decide +kernel
theorem dX3_pass_52 : decode cX3_pass 52 = .ok (.iadd, 1) := by decide +kernel
theorem dX3_pass_53 : decode cX3_pass 53 = .ok (.putfield 81, 3) := by decide +kernel
theorem dX3_pass_56 : decode cX3_pass 56 = .ok (.aload_n 0, 1) := by decide +kernel
theorem dX3_pass_57 : decode cX3_pass 57 = .ok (.getfield 56, 3) := by decide +kernel
theorem dX3_pass_60 : decode cX3_pass 60 = .ok (.ifCond .le 7, 3) := by decide +kernel
theorem dX3_pass_63 : decode cX3_pass 63 = .ok (.iconst 0, 1) := by decide +kernel
theorem dX3_pass_64 : decode cX3_pass 64 = .ok (.goto 7, 3) := by decide +kernel
theorem dX3_pass_67 : decode cX3_pass 67 = .ok (.aload_n 0, 1) := by decide +kernel
theorem dX3_pass_68 : decode cX3_pass 68 = .ok (.getfield 81, 3) := by decide +kernel
theorem dX3_pass_71 : decode cX3_pass 71 = .ok (.ireturn, 1) := by decide +kernel
theorem dX3_today_0 : decode cX3_today 0 = .ok (.aload_n 0, 1) := by decide +kernel
theorem dX3_today_1 : decode cX3_today 1 = .ok (.iconst 0, 1) := by decide +kernel
theorem dX3_today_2 : decode cX3_today 2 = .ok (.putfield 56, 3) := by decide +kernel
theorem dX3_today_5 : decode cX3_today 5 = .ok (.aload_n 0, 1) := by decide +kernel
theorem dX3_today_6 : decode cX3_today 6 = .ok (.getfield 81, 3) := by decide +kernel
theorem dX3_today_9 : decode cX3_today 9 = .ok (.ireturn, 1) := by decide +kernel
theorem dX3_addRule_0 : decode cX3_addRule 0 = .ok (.iload_n 1, 1) := by decide +kernel
theorem dX3_addRule_1 : decode cX3_addRule 1 = .ok (.iconst 1, 1) := by decide +kernel
theorem dX3_addRule_2 : decode cX3_addRule 2 = .ok (.if_icmp .ne 7, 3) := by decide +kernel
theorem dX3_addRule_5 : decode cX3_addRule 5 = .ok (.iconst 0, 1) := by decide +kernel
theorem dX3_addRule_6 : decode cX3_addRule 6 = .ok (.goto 4, 3) := by decide +kernel
theorem dX3_addRule_9 : decode cX3_addRule 9 = .ok (.iconst 1, 1) := by decide +kernel
theorem dX3_addRule_10 : decode cX3_addRule 10 = .ok (.istore 7, 2) := by decide +kernel
theorem dX3_addRule_12 : decode cX3_addRule 12 = .ok (.iload_n 1, 1) := by decide +kernel
theorem dX3_addRule_13 : decode cX3_addRule 13 = .ok (.ifCond .ne 8, 3) := by decide +kernel
theorem dX3_addRule_16 : decode cX3_addRule 16 = .ok (.bipush 60, 2) := by decide +kernel
theorem dX3_addRule_18 : decode cX3_addRule 18 = .ok (.goto 15, 3) := by decide +kernel
theorem dX3_addRule_21 : decode cX3_addRule 21 = .ok (.iload_n 1, 1) := by decide +kernel
theorem dX3_addRule_22 : decode cX3_addRule 22 = .ok (.iconst 1, 1) := by decide +kernel
theorem dX3_addRule_23 : decode cX3_addRule 23 = .ok (.if_icmp .ne 8, 3) := by decide +kernel
theorem dX3_addRule_26 : decode cX3_addRule 26 = .ok (.bipush 29, 2) := by decide +kernel
theorem dX3_addRule_28 : decode cX3_addRule 28 = .ok (.goto 5, 3) := by decide +kernel
theorem dX3_addRule_31 : decode cX3_addRule 31 = .ok (.bipush 22, 2) := by decide +kernel
theorem dX3_addRule_33 : decode cX3_addRule 33 = .ok (.istore 8, 2) := by decide +kernel
theorem dX3_addRule_35 : decode cX3_addRule 35 = .ok (.iload_n 1, 1) := by decide +kernel
theorem dX3_addRule_36 : decode cX3_addRule 36 = .ok (.iconst 0, 1) := by decide +kernel
theorem dX3_addRule_37 : decode cX3_addRule 37 = .ok (.iconst 3, 1) := by decide +kernel
theorem dX3_addRule_38 : decode cX3_addRule 38 = .ok (.invokestatic 60, 3) := by decide +kernel
theorem dX3_addRule_41 : decode cX3_addRule 41 = .ok (.ifCond .eq 49, 3) := by decide +kernel
theorem dX3_addRule_44 : decode cX3_addRule 44 = .ok (.iload_n 2, 1) := by decide +kernel
theorem dX3_addRule_45 : decode cX3_addRule 45 = .ok (.iload 7, 2) := by decide +kernel
theorem dX3_addRule_47 : decode cX3_addRule 47 = .ok (.iload 8, 2) := by decide +kernel
theorem dX3_addRule_49 : decode cX3_addRule 49 = .ok (.invokestatic 60, 3) := by decide +kernel
theorem dX3_addRule_52 : decode cX3_addRule 52 = .ok (.ifCond .eq 38, 3) := by decide +kernel
theorem dX3_addRule_55 : decode cX3_addRule 55 = .ok (.iload_n 3, 1) := by decide +kernel
theorem dX3_addRule_56 : decode cX3_addRule 56 = .ok (.iconst 0, 1) := by decide +kernel
theorem dX3_addRule_57 : decode cX3_addRule 57 = .ok (.iconst 2, 1) := by decide +kernel
theorem dX3_addRule_58 : decode cX3_addRule 58 = .ok (.invokestatic 60, 3) := by decide +kernel
theorem dX3_addRule_61 : decode cX3_addRule 61 = .ok (.ifCond .eq 29, 3) := by decide +kernel
theorem dX3_addRule_64 : decode cX3_addRule 64 = .ok (.iload 5, 2) := by decide +kernel
theorem dX3_addRule_66 : decode cX3_addRule 66 = .ok (.iconst 1, 1) := by decide +kernel
theorem dX3_addRule_67 : decode cX3_addRule 67 = .ok (.bipush 9, 2) := by decide +kernel
theorem dX3_addRule_69 : decode cX3_addRule 69 = .ok (.invokestatic 60, 3) := by decide +kernel
theorem dX3_addRule_72 : decode cX3_addRule 72 = .ok (.ifCond .eq 18, 3) := by decide +kernel
theorem dX3_addRule_75 : decode cX3_addRule 75 = .ok (.iload 6, 2) := by decide +kernel
theorem dX3_addRule_77 : decode cX3_addRule 77 = .ok (.iconst 0, 1) := by decide +kernel
theorem dX3_addRule_78 : decode cX3_addRule 78 = .ok (.bipush 99, 2) := by decide +kernel
theorem dX3_addRule_80 : decode cX3_addRule 80 = .ok (.invokestatic 60, 3) := by decide +kernel
theorem dX3_addRule_83 : decode cX3_addRule 83 = .ok (.ifCond .eq 7, 3) := by decide +kernel
theorem dX3_addRule_86 : decode cX3_addRule 86 = .ok (.iconst 1, 1) := by decide +kernel
theorem dX3_addRule_87 : decode cX3_addRule 87 = .ok (.goto 4, 3) := by decide +kernel
theorem dX3_addRule_90 : decode cX3_addRule 90 = .ok (.iconst 0, 1) := by decide +kernel
theorem dX3_addRule_91 : decode cX3_addRule 91 = .ok (.istore 9, 2) := by decide +kernel
theorem dX3_addRule_93 : decode cX3_addRule 93 = .ok (.aload_n 0, 1) := by decide +kernel
theorem dX3_addRule_94 : decode cX3_addRule 94 = .ok (.iload 4, 2) := by decide +kernel
theorem dX3_addRule_96 : decode cX3_addRule 96 = .ok (.invokestatic 67, 3) := by decide +kernel
theorem dX3_addRule_99 : decode cX3_addRule 99 = .ok (.ifCond .ne 7, 3) := by decide +kernel
theorem dX3_addRule_102 : decode cX3_addRule 102 = .ok (.iconst 1, 1) := by decide +kernel
theorem dX3_addRule_103 : decode cX3_addRule 103 = .ok (.goto 26, 3) := by decide +kernel
theorem dX3_addRule_106 : decode cX3_addRule 106 = .ok (.iload 9, 2) := by decide +kernel
theorem dX3_addRule_108 : decode cX3_addRule 108 = .ok (.ifCond .ne 7, 3) := by decide +kernel
theorem dX3_addRule_111 : decode cX3_addRule 111 = .ok (.iconst 2, 1) := by decide +kernel
theorem dX3_addRule_112 : decode cX3_addRule 112 = .ok (.goto 17, 3) := by decide +kernel
theorem dX3_addRule_115 : decode cX3_addRule 115 = .ok (.aload_n 0, 1) := by decide +kernel
theorem dX3_addRule_116 : decode cX3_addRule 116 = .ok (.getfield 64, 3) := by decide +kernel
theorem dX3_addRule_119 : decode cX3_addRule 119 = .ok (.bipush 8, 2) := by decide +kernel
theorem dX3_addRule_121 : decode cX3_addRule 121 = .ok (.if_icmp .ne 7, 3) := by decide +kernel
theorem dX3_addRule_124 : decode cX3_addRule 124 = .ok (.iconst 3, 1) := by decide +kernel
theorem dX3_addRule_125 : decode cX3_addRule 125 = .ok (.goto 4, 3) := by decide +kernel
theorem dX3_addRule_128 : decode cX3_addRule 128 = .ok (.iconst 0, 1) := by decide +kernel
theorem dX3_addRule_129 : decode cX3_addRule 129 = .ok (.putfield 56, 3) := by decide +kernel
theorem dX3_addRule_132 : decode cX3_addRule 132 = .ok (.aload_n 0, 1) := by decide +kernel
theorem dX3_addRule_133 : decode cX3_addRule 133 = .ok (.getfield 56, 3) := by decide +kernel
theorem dX3_addRule_136 : decode cX3_addRule 136 = .ok (.ifCond .le 5, 3) := by decide +kernel
theorem dX3_addRule_139 : decode cX3_addRule 139 = .ok (.iconst 0, 1) := by decide +kernel
theorem dX3_addRule_140 : decode cX3_addRule 140 = .ok (.ireturn, 1) := by decide +kernel
theorem dX3_addRule_141 : decode cX3_addRule 141 = .ok (.aload_n 0, 1) := by decide +kernel
theorem dX3_addRule_142 : decode cX3_addRule 142 = .ok (.getfield 13, 3) := by decide +kernel
theorem dX3_addRule_145 : decode cX3_addRule 145 = .ok (.aload_n 0, 1) := by decide +kernel
theorem dX3_addRule_146 : decode cX3_addRule 146 = .ok (.getfield 64, 3) := by decide +kernel
theorem dX3_addRule_149 : decode cX3_addRule 149 = .ok (.iload_n 1, 1) := by decide +kernel
theorem dX3_addRule_150 : decode cX3_addRule 150 = .ok (.iastore, 1) := by decide +kernel
theorem dX3_addRule_151 : decode cX3_addRule 151 = .ok (.aload_n 0, 1) := by decide +kernel
theorem dX3_addRule_152 : decode cX3_addRule 152 = .ok (.getfield 17, 3) := by decide +kernel
theorem dX3_addRule_155 : decode cX3_addRule 155 = .ok (.aload_n 0, 1) := by decide +kernel
theorem dX3_addRule_156 : decode cX3_addRule 156 = .ok (.getfield 64, 3) := by decide +kernel
theorem dX3_addRule_159 : decode cX3_addRule 159 = .ok (.iload_n 2, 1) := by decide +kernel
theorem dX3_addRule_160 : decode cX3_addRule 160 = .ok (.iastore, 1) := by decide +kernel
theorem dX3_addRule_161 : decode cX3_addRule 161 = .ok (.aload_n 0, 1) := by decide +kernel
theorem dX3_addRule_162 : decode cX3_addRule 162 = .ok (.getfield 20, 3) := by decide +kernel
theorem dX3_addRule_165 : decode cX3_addRule 165 = .ok (.aload_n 0, 1) := by decide +kernel
theorem dX3_addRule_166 : decode cX3_addRule 166 = .ok (.getfield 64, 3) := by decide +kernel
theorem dX3_addRule_169 : decode cX3_addRule 169 = .ok (.iload_n 3, 1) := by decide +kernel
theorem dX3_addRule_170 : decode cX3_addRule 170 = .ok (.iastore, 1) := by decide +kernel
theorem dX3_addRule_171 : decode cX3_addRule 171 = .ok (.aload_n 0, 1) := by decide +kernel
theorem dX3_addRule_172 : decode cX3_addRule 172 = .ok (.getfield 23, 3) := by decide +kernel
theorem dX3_addRule_175 : decode cX3_addRule 175 = .ok (.aload_n 0, 1) := by decide +kernel
theorem dX3_addRule_176 : decode cX3_addRule 176 = .ok (.getfield 64, 3) := by decide +kernel
theorem dX3_addRule_179 : decode cX3_addRule 179 = .ok (.iload 4, 2) := by decide +kernel
theorem dX3_addRule_181 : decode cX3_addRule 181 = .ok (.iastore, 1) := by decide +kernel
theorem dX3_addRule_182 : decode cX3_addRule 182 = .ok (.aload_n 0, 1) := by decide +kernel
theorem dX3_addRule_183 : decode cX3_addRule 183 = .ok (.getfield 26, 3) := by decide +kernel
theorem dX3_addRule_186 : decode cX3_addRule 186 = .ok (.aload_n 0, 1) := by decide +kernel
theorem dX3_addRule_187 : decode cX3_addRule 187 = .ok (.getfield 64, 3) := by decide +kernel
theorem dX3_addRule_190 : decode cX3_addRule 190 = .ok (.iload 5, 2) := by decide +kernel
theorem dX3_addRule_192 : decode cX3_addRule 192 = .ok (.iastore, 1) := by decide +kernel
theorem dX3_addRule_193 : decode cX3_addRule 193 = .ok (.aload_n 0, 1) := by decide +kernel
theorem dX3_addRule_194 : decode cX3_addRule 194 = .ok (.getfield 29, 3) := by decide +kernel
theorem dX3_addRule_197 : decode cX3_addRule 197 = .ok (.aload_n 0, 1) := by decide +kernel
theorem dX3_addRule_198 : decode cX3_addRule 198 = .ok (.getfield 64, 3) := by decide +kernel
theorem dX3_addRule_201 : decode cX3_addRule 201 = .ok (.iload 6, 2) := by decide +kernel
theorem dX3_addRule_203 : decode cX3_addRule 203 = .ok (.iastore, 1) := by decide +kernel
theorem dX3_addRule_204 : decode cX3_addRule 204 = .ok (.aload_n 0, 1) := by decide +kernel
theorem dX3_addRule_205 : decode cX3_addRule 205 = .ok (.dup, 1) := by decide +kernel
theorem dX3_addRule_206 : decode cX3_addRule 206 = .ok (.getfield 64, 3) := by decide +kernel
theorem dX3_addRule_209 : decode cX3_addRule 209 = .ok (.iconst 1, 1) := by decide +kernel
theorem dX3_addRule_210 : decode cX3_addRule 210 = .ok (.iadd, 1) := by decide +kernel
theorem dX3_addRule_211 : decode cX3_addRule 211 = .ok (.putfield 64, 3) := by decide +kernel
theorem dX3_addRule_214 : decode cX3_addRule 214 = .ok (.aload_n 0, 1) := by decide +kernel
theorem dX3_addRule_215 : decode cX3_addRule 215 = .ok (.getfield 64, 3) := by decide +kernel
theorem dX3_addRule_218 : decode cX3_addRule 218 = .ok (.iconst 1, 1) := by decide +kernel
theorem dX3_addRule_219 : decode cX3_addRule 219 = .ok (.isub, 1) := by decide +kernel
theorem dX3_addRule_220 : decode cX3_addRule 220 = .ok (.ireturn, 1) := by decide +kernel
theorem dX3_setShift_0 : decode cX3_setShift 0 = .ok (.aload_n 0, 1) := by decide +kernel
theorem dX3_setShift_1 : decode cX3_setShift 1 = .ok (.aload_n 0, 1) := by decide +kernel
theorem dX3_setShift_2 : decode cX3_setShift 2 = .ok (.iload_n 1, 1) := by decide +kernel
theorem dX3_setShift_3 : decode cX3_setShift 3 = .ok (.invokevirtual 84, 3) := by decide +kernel
theorem dX3_setShift_6 : decode cX3_setShift 6 = .ok (.ifCond .ne 7, 3) := by decide +kernel
theorem dX3_setShift_9 : decode cX3_setShift 9 = .ok (.iconst 1, 1) := by decide +kernel
theorem dX3_setShift_10 : decode cX3_setShift 10 = .ok (.goto 17, 3) := by decide +kernel
theorem dX3_setShift_13 : decode cX3_setShift 13 = .ok (.iload_n 2, 1) := by decide +kernel
theorem dX3_setShift_14 : decode cX3_setShift 14 = .ok (.iconst 0, 1) := by decide +kernel
theorem dX3_setShift_15 : decode cX3_setShift 15 = .ok (.iconst 2, 1) := by decide +kernel
theorem dX3_setShift_16 : decode cX3_setShift 16 = .ok (.invokestatic 60, 3) := by decide +kernel
theorem dX3_setShift_19 : decode cX3_setShift 19 = .ok (.ifCond .eq 7, 3) := by decide +kernel
theorem dX3_setShift_22 : decode cX3_setShift 22 = .ok (.iconst 0, 1) := by decide +kernel
theorem dX3_setShift_23 : decode cX3_setShift 23 = .ok (.goto 4, 3) := by decide +kernel
theorem dX3_setShift_26 : decode cX3_setShift 26 = .ok (.iconst 2, 1) := by decide +kernel
theorem dX3_setShift_27 : decode cX3_setShift 27 = .ok (.putfield 56, 3) := by decide +kernel
theorem dX3_setShift_30 : decode cX3_setShift 30 = .ok (.aload_n 0, 1) := by decide +kernel
theorem dX3_setShift_31 : decode cX3_setShift 31 = .ok (.getfield 56, 3) := by decide +kernel
theorem dX3_setShift_34 : decode cX3_setShift 34 = .ok (.ifCond .le 5, 3) := by decide +kernel
theorem dX3_setShift_37 : decode cX3_setShift 37 = .ok (.iconst 0, 1) := by decide +kernel
theorem dX3_setShift_38 : decode cX3_setShift 38 = .ok (.ireturn, 1) := by decide +kernel
theorem dX3_setShift_39 : decode cX3_setShift 39 = .ok (.aload_n 0, 1) := by decide +kernel
theorem dX3_setShift_40 : decode cX3_setShift 40 = .ok (.getfield 20, 3) := by decide +kernel
theorem dX3_setShift_43 : decode cX3_setShift 43 = .ok (.iload_n 1, 1) := by decide +kernel
theorem dX3_setShift_44 : decode cX3_setShift 44 = .ok (.iaload, 1) := by decide +kernel
theorem dX3_setShift_45 : decode cX3_setShift 45 = .ok (.istore_n 3, 1) := by decide +kernel
theorem dX3_setShift_46 : decode cX3_setShift 46 = .ok (.aload_n 0, 1) := by decide +kernel
theorem dX3_setShift_47 : decode cX3_setShift 47 = .ok (.getfield 20, 3) := by decide +kernel
theorem dX3_setShift_50 : decode cX3_setShift 50 = .ok (.iload_n 1, 1) := by decide +kernel
theorem dX3_setShift_51 : decode cX3_setShift 51 = .ok (.iload_n 2, 1) := by decide +kernel
theorem dX3_setShift_52 : decode cX3_setShift 52 = .ok (.iastore, 1) := by decide +kernel
theorem dX3_setShift_53 : decode cX3_setShift 53 = .ok (.iload_n 3, 1) := by decide +kernel
theorem dX3_setShift_54 : decode cX3_setShift 54 = .ok (.ireturn, 1) := by decide +kernel
theorem dX3_reaches_0 : decode cX3_reaches 0 = .ok (.iconst 1, 1) := by decide +kernel
theorem dX3_reaches_1 : decode cX3_reaches 1 = .ok (.iload_n 1, 1) := by decide +kernel
theorem dX3_reaches_2 : decode cX3_reaches 2 = .ok (.ishl, 1) := by decide +kernel
theorem dX3_reaches_3 : decode cX3_reaches 3 = .ok (.istore_n 3, 1) := by decide +kernel
theorem dX3_reaches_4 : decode cX3_reaches 4 = .ok (.iconst 0, 1) := by decide +kernel
theorem dX3_reaches_5 : decode cX3_reaches 5 = .ok (.istore 4, 2) := by decide +kernel
theorem dX3_reaches_7 : decode cX3_reaches 7 = .ok (.iload_n 3, 1) := by decide +kernel
theorem dX3_reaches_8 : decode cX3_reaches 8 = .ok (.iload 4, 2) := by decide +kernel
theorem dX3_reaches_10 : decode cX3_reaches 10 = .ok (.if_icmp .eq 82, 3) := by decide +kernel
theorem dX3_reaches_13 : decode cX3_reaches 13 = .ok (.iload_n 3, 1) := by decide +kernel
theorem dX3_reaches_14 : decode cX3_reaches 14 = .ok (.istore 4, 2) := by decide +kernel
theorem dX3_reaches_16 : decode cX3_reaches 16 = .ok (.iconst 0, 1) := by decide +kernel
theorem dX3_reaches_17 : decode cX3_reaches 17 = .ok (.istore 5, 2) := by decide +kernel
theorem dX3_reaches_19 : decode cX3_reaches 19 = .ok (.iload 5, 2) := by decide +kernel
theorem dX3_reaches_21 : decode cX3_reaches 21 = .ok (.aload_n 0, 1) := by decide +kernel
theorem dX3_reaches_22 : decode cX3_reaches 22 = .ok (.getfield 64, 3) := by decide +kernel
theorem dX3_reaches_25 : decode cX3_reaches 25 = .ok (.if_icmp .ge 64, 3) := by decide +kernel
theorem dX3_reaches_28 : decode cX3_reaches 28 = .ok (.iconst 0, 1) := by decide +kernel
theorem dX3_reaches_29 : decode cX3_reaches 29 = .ok (.istore 6, 2) := by decide +kernel
theorem dX3_reaches_31 : decode cX3_reaches 31 = .ok (.iload 6, 2) := by decide +kernel
theorem dX3_reaches_33 : decode cX3_reaches 33 = .ok (.aload_n 0, 1) := by decide +kernel
theorem dX3_reaches_34 : decode cX3_reaches 34 = .ok (.getfield 64, 3) := by decide +kernel
theorem dX3_reaches_37 : decode cX3_reaches 37 = .ok (.if_icmp .ge 46, 3) := by decide +kernel
theorem dX3_reaches_40 : decode cX3_reaches 40 = .ok (.iload_n 3, 1) := by decide +kernel
theorem dX3_reaches_41 : decode cX3_reaches 41 = .ok (.iload_n 3, 1) := by decide +kernel
theorem dX3_reaches_42 : decode cX3_reaches 42 = .ok (.iload 5, 2) := by decide +kernel
theorem dX3_reaches_44 : decode cX3_reaches 44 = .ok (.ishr, 1) := by decide +kernel
theorem dX3_reaches_45 : decode cX3_reaches 45 = .ok (.iconst 2, 1) := by decide +kernel
theorem dX3_reaches_46 : decode cX3_reaches 46 = .ok (.irem, 1) := by decide +kernel
theorem dX3_reaches_47 : decode cX3_reaches 47 = .ok (.iconst 1, 1) := by decide +kernel
theorem dX3_reaches_48 : decode cX3_reaches 48 = .ok (.if_icmp .ne 26, 3) := by decide +kernel
theorem dX3_reaches_51 : decode cX3_reaches 51 = .ok (.aload_n 0, 1) := by decide +kernel
theorem dX3_reaches_52 : decode cX3_reaches 52 = .ok (.getfield 38, 3) := by decide +kernel
theorem dX3_reaches_55 : decode cX3_reaches 55 = .ok (.bipush 8, 2) := by decide +kernel
theorem dX3_reaches_57 : decode cX3_reaches 57 = .ok (.iload 5, 2) := by decide +kernel
theorem dX3_reaches_59 : decode cX3_reaches 59 = .ok (.imul, 1) := by decide +kernel
theorem dX3_reaches_60 : decode cX3_reaches 60 = .ok (.iload 6, 2) := by decide +kernel
theorem dX3_reaches_62 : decode cX3_reaches 62 = .ok (.iadd, 1) := by decide +kernel
theorem dX3_reaches_63 : decode cX3_reaches 63 = .ok (.baload, 1) := by decide +kernel
theorem dX3_reaches_64 : decode cX3_reaches 64 = .ok (.ifCond .eq 10, 3) := by decide +kernel
theorem dX3_reaches_67 : decode cX3_reaches 67 = .ok (.iconst 1, 1) := by decide +kernel
theorem dX3_reaches_68 : decode cX3_reaches 68 = .ok (.iload 6, 2) := by decide +kernel
theorem dX3_reaches_70 : decode cX3_reaches 70 = .ok (.ishl, 1) := by decide +kernel
theorem dX3_reaches_71 : decode cX3_reaches 71 = .ok (.goto 4, 3) := by decide +kernel
theorem dX3_reaches_74 : decode cX3_reaches 74 = .ok (.iconst 0, 1) := by decide +kernel
theorem dX3_reaches_75 : decode cX3_reaches 75 = .ok (.ior, 1) := by decide +kernel
theorem dX3_reaches_76 : decode cX3_reaches 76 = .ok (.istore_n 3, 1) := by decide +kernel
theorem dX3_reaches_77 : decode cX3_reaches 77 = .ok (.iinc 6 1, 3) := by decide +kernel
theorem dX3_reaches_80 : decode cX3_reaches 80 = .ok (.goto (-49), 3) := by decide +kernel
theorem dX3_reaches_83 : decode cX3_reaches 83 = .ok (.iinc 5 1, 3) := by decide +kernel
theorem dX3_reaches_86 : decode cX3_reaches 86 = .ok (.goto (-67), 3) := by decide +kernel
theorem dX3_reaches_89 : decode cX3_reaches 89 = .ok (.goto (-82), 3) := by decide +kernel
theorem dX3_reaches_92 : decode cX3_reaches 92 = .ok (.iload_n 3, 1) := by decide +kernel
theorem dX3_reaches_93 : decode cX3_reaches 93 = .ok (.iload_n 2, 1) := by decide +kernel
theorem dX3_reaches_94 : decode cX3_reaches 94 = .ok (.ishr, 1) := by decide +kernel
theorem dX3_reaches_95 : decode cX3_reaches 95 = .ok (.iconst 2, 1) := by decide +kernel
theorem dX3_reaches_96 : decode cX3_reaches 96 = .ok (.irem, 1) := by decide +kernel
theorem dX3_reaches_97 : decode cX3_reaches 97 = .ok (.iconst 1, 1) := by decide +kernel
theorem dX3_reaches_98 : decode cX3_reaches 98 = .ok (.if_icmp .ne 7, 3) := by decide +kernel
theorem dX3_reaches_101 : decode cX3_reaches 101 = .ok (.iconst 1, 1) := by decide +kernel
theorem dX3_reaches_102 : decode cX3_reaches 102 = .ok (.goto 4, 3) := by decide +kernel
theorem dX3_reaches_105 : decode cX3_reaches 105 = .ok (.iconst 0, 1) := by decide +kernel
theorem dX3_reaches_106 : decode cX3_reaches 106 = .ok (.ireturn, 1) := by decide +kernel
theorem dX3_require_0 : decode cX3_require 0 = .ok (.aload_n 0, 1) := by decide +kernel
theorem dX3_require_1 : decode cX3_require 1 = .ok (.aload_n 0, 1) := by decide +kernel
theorem dX3_require_2 : decode cX3_require 2 = .ok (.iload_n 1, 1) := by decide +kernel
theorem dX3_require_3 : decode cX3_require 3 = .ok (.invokevirtual 84, 3) := by decide +kernel
theorem dX3_require_6 : decode cX3_require 6 = .ok (.ifCond .eq 11, 3) := by decide +kernel
theorem dX3_require_9 : decode cX3_require 9 = .ok (.aload_n 0, 1) := by decide +kernel
theorem dX3_require_10 : decode cX3_require 10 = .ok (.iload_n 2, 1) := by decide +kernel
theorem dX3_require_11 : decode cX3_require 11 = .ok (.invokevirtual 84, 3) := by decide +kernel
theorem dX3_require_14 : decode cX3_require 14 = .ok (.ifCond .ne 7, 3) := by decide +kernel
theorem dX3_require_17 : decode cX3_require 17 = .ok (.iconst 1, 1) := by decide +kernel
theorem dX3_require_18 : decode cX3_require 18 = .ok (.goto 17, 3) := by decide +kernel
theorem dX3_require_21 : decode cX3_require 21 = .ok (.aload_n 0, 1) := by decide +kernel
theorem dX3_require_22 : decode cX3_require 22 = .ok (.iload_n 2, 1) := by decide +kernel
theorem dX3_require_23 : decode cX3_require 23 = .ok (.iload_n 1, 1) := by decide +kernel
theorem dX3_require_24 : decode cX3_require 24 = .ok (.invokevirtual 87, 3) := by decide +kernel
theorem dX3_require_27 : decode cX3_require 27 = .ok (.ifCond .eq 7, 3) := by decide +kernel
theorem dX3_require_30 : decode cX3_require 30 = .ok (.iconst 2, 1) := by decide +kernel
theorem dX3_require_31 : decode cX3_require 31 = .ok (.goto 4, 3) := by decide +kernel
theorem dX3_require_34 : decode cX3_require 34 = .ok (.iconst 0, 1) := by decide +kernel
theorem dX3_require_35 : decode cX3_require 35 = .ok (.putfield 56, 3) := by decide +kernel
theorem dX3_require_38 : decode cX3_require 38 = .ok (.aload_n 0, 1) := by decide +kernel
theorem dX3_require_39 : decode cX3_require 39 = .ok (.getfield 56, 3) := by decide +kernel
theorem dX3_require_42 : decode cX3_require 42 = .ok (.ifCond .le 5, 3) := by decide +kernel
theorem dX3_require_45 : decode cX3_require 45 = .ok (.iconst 0, 1) := by decide +kernel
theorem dX3_require_46 : decode cX3_require 46 = .ok (.ireturn, 1) := by decide +kernel
theorem dX3_require_47 : decode cX3_require 47 = .ok (.aload_n 0, 1) := by decide +kernel
theorem dX3_require_48 : decode cX3_require 48 = .ok (.getfield 38, 3) := by decide +kernel
theorem dX3_require_51 : decode cX3_require 51 = .ok (.bipush 8, 2) := by decide +kernel
theorem dX3_require_53 : decode cX3_require 53 = .ok (.iload_n 1, 1) := by decide +kernel
theorem dX3_require_54 : decode cX3_require 54 = .ok (.imul, 1) := by decide +kernel
theorem dX3_require_55 : decode cX3_require 55 = .ok (.iload_n 2, 1) := by decide +kernel
theorem dX3_require_56 : decode cX3_require 56 = .ok (.iadd, 1) := by decide +kernel
theorem dX3_require_57 : decode cX3_require 57 = .ok (.baload, 1) := by decide +kernel
theorem dX3_require_58 : decode cX3_require 58 = .ok (.istore_n 3, 1) := by decide +kernel
theorem dX3_require_59 : decode cX3_require 59 = .ok (.aload_n 0, 1) := by decide +kernel
theorem dX3_require_60 : decode cX3_require 60 = .ok (.getfield 38, 3) := by decide +kernel
theorem dX3_require_63 : decode cX3_require 63 = .ok (.bipush 8, 2) := by decide +kernel
theorem dX3_require_65 : decode cX3_require 65 = .ok (.iload_n 1, 1) := by decide +kernel
theorem dX3_require_66 : decode cX3_require 66 = .ok (.imul, 1) := by decide +kernel
theorem dX3_require_67 : decode cX3_require 67 = .ok (.iload_n 2, 1) := by decide +kernel
theorem dX3_require_68 : decode cX3_require 68 = .ok (.iadd, 1) := by decide +kernel
theorem dX3_require_69 : decode cX3_require 69 = .ok (.iconst 1, 1) := by decide +kernel
theorem dX3_require_70 : decode cX3_require 70 = .ok (.bastore, 1) := by decide +kernel
theorem dX3_require_71 : decode cX3_require 71 = .ok (.iload_n 3, 1) := by decide +kernel
theorem dX3_require_72 : decode cX3_require 72 = .ok (.ifCond .ne 7, 3) := by decide +kernel
theorem dX3_require_75 : decode cX3_require 75 = .ok (.iconst 1, 1) := by decide +kernel
theorem dX3_require_76 : decode cX3_require 76 = .ok (.goto 4, 3) := by decide +kernel
theorem dX3_require_79 : decode cX3_require 79 = .ok (.iconst 0, 1) := by decide +kernel
theorem dX3_require_80 : decode cX3_require 80 = .ok (.ireturn, 1) := by decide +kernel
theorem dX3_rules_0 : decode cX3_rules 0 = .ok (.aload_n 0, 1) := by decide +kernel
theorem dX3_rules_1 : decode cX3_rules 1 = .ok (.iconst 0, 1) := by decide +kernel
theorem dX3_rules_2 : decode cX3_rules 2 = .ok (.putfield 56, 3) := by decide +kernel
theorem dX3_rules_5 : decode cX3_rules 5 = .ok (.aload_n 0, 1) := by decide +kernel
theorem dX3_rules_6 : decode cX3_rules 6 = .ok (.getfield 64, 3) := by decide +kernel
theorem dX3_rules_9 : decode cX3_rules 9 = .ok (.ireturn, 1) := by decide +kernel
theorem dX3_isNominal_0 : decode cX3_isNominal 0 = .ok (.aload_n 0, 1) := by decide +kernel
theorem dX3_isNominal_1 : decode cX3_isNominal 1 = .ok (.getfield 17, 3) := by decide +kernel
theorem dX3_isNominal_4 : decode cX3_isNominal 4 = .ok (.iload_n 1, 1) := by decide +kernel
theorem dX3_isNominal_5 : decode cX3_isNominal 5 = .ok (.iaload, 1) := by decide +kernel
theorem dX3_isNominal_6 : decode cX3_isNominal 6 = .ok (.istore_n 3, 1) := by decide +kernel
theorem dX3_isNominal_7 : decode cX3_isNominal 7 = .ok (.iload_n 2, 1) := by decide +kernel
theorem dX3_isNominal_8 : decode cX3_isNominal 8 = .ok (.bipush 30, 2) := by decide +kernel
theorem dX3_isNominal_10 : decode cX3_isNominal 10 = .ok (.idiv, 1) := by decide +kernel
theorem dX3_isNominal_11 : decode cX3_isNominal 11 = .ok (.bipush 30, 2) := by decide +kernel
theorem dX3_isNominal_13 : decode cX3_isNominal 13 = .ok (.imul, 1) := by decide +kernel
theorem dX3_isNominal_14 : decode cX3_isNominal 14 = .ok (.istore 4, 2) := by decide +kernel
theorem dX3_isNominal_16 : decode cX3_isNominal 16 = .ok (.iload_n 2, 1) := by decide +kernel
theorem dX3_isNominal_17 : decode cX3_isNominal 17 = .ok (.aload_n 0, 1) := by decide +kernel
theorem dX3_isNominal_18 : decode cX3_isNominal 18 = .ok (.getfield 23, 3) := by decide +kernel
theorem dX3_isNominal_21 : decode cX3_isNominal 21 = .ok (.iload_n 1, 1) := by decide +kernel
theorem dX3_isNominal_22 : decode cX3_isNominal 22 = .ok (.iaload, 1) := by decide +kernel
theorem dX3_isNominal_23 : decode cX3_isNominal 23 = .ok (.if_icmp .ge 5, 3) := by decide +kernel
theorem dX3_isNominal_26 : decode cX3_isNominal 26 = .ok (.iconst 0, 1) := by decide +kernel
theorem dX3_isNominal_27 : decode cX3_isNominal 27 = .ok (.ireturn, 1) := by decide +kernel
theorem dX3_isNominal_28 : decode cX3_isNominal 28 = .ok (.aload_n 0, 1) := by decide +kernel
theorem dX3_isNominal_29 : decode cX3_isNominal 29 = .ok (.getfield 13, 3) := by decide +kernel
theorem dX3_isNominal_32 : decode cX3_isNominal 32 = .ok (.iload_n 1, 1) := by decide +kernel
theorem dX3_isNominal_33 : decode cX3_isNominal 33 = .ok (.iaload, 1) := by decide +kernel
theorem dX3_isNominal_34 : decode cX3_isNominal 34 = .ok (.ifCond .ne 22, 3) := by decide +kernel
theorem dX3_isNominal_37 : decode cX3_isNominal 37 = .ok (.iload_n 2, 1) := by decide +kernel
theorem dX3_isNominal_38 : decode cX3_isNominal 38 = .ok (.aload_n 0, 1) := by decide +kernel
theorem dX3_isNominal_39 : decode cX3_isNominal 39 = .ok (.getfield 23, 3) := by decide +kernel
theorem dX3_isNominal_42 : decode cX3_isNominal 42 = .ok (.iload_n 1, 1) := by decide +kernel
theorem dX3_isNominal_43 : decode cX3_isNominal 43 = .ok (.iaload, 1) := by decide +kernel
theorem dX3_isNominal_44 : decode cX3_isNominal 44 = .ok (.isub, 1) := by decide +kernel
theorem dX3_isNominal_45 : decode cX3_isNominal 45 = .ok (.iload_n 3, 1) := by decide +kernel
theorem dX3_isNominal_46 : decode cX3_isNominal 46 = .ok (.irem, 1) := by decide +kernel
theorem dX3_isNominal_47 : decode cX3_isNominal 47 = .ok (.ifCond .ne 7, 3) := by decide +kernel
theorem dX3_isNominal_50 : decode cX3_isNominal 50 = .ok (.iconst 1, 1) := by decide +kernel
theorem dX3_isNominal_51 : decode cX3_isNominal 51 = .ok (.goto 4, 3) := by decide +kernel
theorem dX3_isNominal_54 : decode cX3_isNominal 54 = .ok (.iconst 0, 1) := by decide +kernel
theorem dX3_isNominal_55 : decode cX3_isNominal 55 = .ok (.ireturn, 1) := by decide +kernel
theorem dX3_isNominal_56 : decode cX3_isNominal 56 = .ok (.aload_n 0, 1) := by decide +kernel
theorem dX3_isNominal_57 : decode cX3_isNominal 57 = .ok (.getfield 13, 3) := by decide +kernel
theorem dX3_isNominal_60 : decode cX3_isNominal 60 = .ok (.iload_n 1, 1) := by decide +kernel
theorem dX3_isNominal_61 : decode cX3_isNominal 61 = .ok (.iaload, 1) := by decide +kernel
theorem dX3_isNominal_62 : decode cX3_isNominal 62 = .ok (.iconst 1, 1) := by decide +kernel
theorem dX3_isNominal_63 : decode cX3_isNominal 63 = .ok (.if_icmp .ne 17, 3) := by decide +kernel
theorem dX3_isNominal_66 : decode cX3_isNominal 66 = .ok (.iload_n 2, 1) := by decide +kernel
theorem dX3_isNominal_67 : decode cX3_isNominal 67 = .ok (.iload 4, 2) := by decide +kernel
theorem dX3_isNominal_69 : decode cX3_isNominal 69 = .ok (.isub, 1) := by decide +kernel
theorem dX3_isNominal_70 : decode cX3_isNominal 70 = .ok (.iload_n 3, 1) := by decide +kernel
theorem dX3_isNominal_71 : decode cX3_isNominal 71 = .ok (.if_icmp .ne 7, 3) := by decide +kernel
theorem dX3_isNominal_74 : decode cX3_isNominal 74 = .ok (.iconst 1, 1) := by decide +kernel
theorem dX3_isNominal_75 : decode cX3_isNominal 75 = .ok (.goto 4, 3) := by decide +kernel
theorem dX3_isNominal_78 : decode cX3_isNominal 78 = .ok (.iconst 0, 1) := by decide +kernel
theorem dX3_isNominal_79 : decode cX3_isNominal 79 = .ok (.ireturn, 1) := by decide +kernel
theorem dX3_isNominal_80 : decode cX3_isNominal 80 = .ok (.aload_n 0, 1) := by decide +kernel
theorem dX3_isNominal_81 : decode cX3_isNominal 81 = .ok (.iload_n 2, 1) := by decide +kernel
theorem dX3_isNominal_82 : decode cX3_isNominal 82 = .ok (.invokevirtual 71, 3) := by decide +kernel
theorem dX3_isNominal_85 : decode cX3_isNominal 85 = .ok (.ifCond .eq 41, 3) := by decide +kernel
theorem dX3_isNominal_88 : decode cX3_isNominal 88 = .ok (.aload_n 0, 1) := by decide +kernel
theorem dX3_isNominal_89 : decode cX3_isNominal 89 = .ok (.getfield 13, 3) := by decide +kernel
theorem dX3_isNominal_92 : decode cX3_isNominal 92 = .ok (.iload_n 1, 1) := by decide +kernel
theorem dX3_isNominal_93 : decode cX3_isNominal 93 = .ok (.iaload, 1) := by decide +kernel
theorem dX3_isNominal_94 : decode cX3_isNominal 94 = .ok (.iconst 2, 1) := by decide +kernel
theorem dX3_isNominal_95 : decode cX3_isNominal 95 = .ok (.if_icmp .ne 13, 3) := by decide +kernel
theorem dX3_isNominal_98 : decode cX3_isNominal 98 = .ok (.aload_n 0, 1) := by decide +kernel
theorem dX3_isNominal_99 : decode cX3_isNominal 99 = .ok (.iload 4, 2) := by decide +kernel
theorem dX3_isNominal_101 : decode cX3_isNominal 101 = .ok (.iload_n 2, 1) := by decide +kernel
theorem dX3_isNominal_102 : decode cX3_isNominal 102 = .ok (.invokevirtual 78, 3) := by decide +kernel
theorem dX3_isNominal_105 : decode cX3_isNominal 105 = .ok (.goto 13, 3) := by decide +kernel
theorem dX3_isNominal_108 : decode cX3_isNominal 108 = .ok (.aload_n 0, 1) := by decide +kernel
theorem dX3_isNominal_109 : decode cX3_isNominal 109 = .ok (.iload_n 2, 1) := by decide +kernel
theorem dX3_isNominal_110 : decode cX3_isNominal 110 = .ok (.iload 4, 2) := by decide +kernel
theorem dX3_isNominal_112 : decode cX3_isNominal 112 = .ok (.bipush 29, 2) := by decide +kernel
theorem dX3_isNominal_114 : decode cX3_isNominal 114 = .ok (.iadd, 1) := by decide +kernel
theorem dX3_isNominal_115 : decode cX3_isNominal 115 = .ok (.invokevirtual 78, 3) := by decide +kernel
theorem dX3_isNominal_118 : decode cX3_isNominal 118 = .ok (.iload_n 3, 1) := by decide +kernel
theorem dX3_isNominal_119 : decode cX3_isNominal 119 = .ok (.if_icmp .ne 7, 3) := by decide +kernel
theorem dX3_isNominal_122 : decode cX3_isNominal 122 = .ok (.iconst 1, 1) := by decide +kernel
theorem dX3_isNominal_123 : decode cX3_isNominal 123 = .ok (.goto 4, 3) := by decide +kernel
theorem dX3_isNominal_126 : decode cX3_isNominal 126 = .ok (.iconst 0, 1) := by decide +kernel
theorem dX3_isNominal_127 : decode cX3_isNominal 127 = .ok (.ireturn, 1) := by decide +kernel
theorem dX3_moved_0 : decode cX3_moved 0 = .ok (.aload_n 0, 1) := by decide +kernel
theorem dX3_moved_1 : decode cX3_moved 1 = .ok (.getfield 20, 3) := by decide +kernel
theorem dX3_moved_4 : decode cX3_moved 4 = .ok (.iload_n 1, 1) := by decide +kernel
theorem dX3_moved_5 : decode cX3_moved 5 = .ok (.iaload, 1) := by decide +kernel
theorem dX3_moved_6 : decode cX3_moved 6 = .ok (.ifCond .ne 7, 3) := by decide +kernel
theorem dX3_moved_9 : decode cX3_moved 9 = .ok (.iconst 1, 1) := by decide +kernel
theorem dX3_moved_10 : decode cX3_moved 10 = .ok (.goto 18, 3) := by decide +kernel
theorem dX3_moved_13 : decode cX3_moved 13 = .ok (.aload_n 0, 1) := by decide +kernel
theorem dX3_moved_14 : decode cX3_moved 14 = .ok (.getfield 20, 3) := by decide +kernel
theorem dX3_moved_17 : decode cX3_moved 17 = .ok (.iload_n 1, 1) := by decide +kernel
theorem dX3_moved_18 : decode cX3_moved 18 = .ok (.iaload, 1) := by decide +kernel
theorem dX3_moved_19 : decode cX3_moved 19 = .ok (.iconst 1, 1) := by decide +kernel
theorem dX3_moved_20 : decode cX3_moved 20 = .ok (.if_icmp .ne 7, 3) := by decide +kernel
theorem dX3_moved_23 : decode cX3_moved 23 = .ok (.iconst (-1), 1) := by decide +kernel
theorem dX3_moved_24 : decode cX3_moved 24 = .ok (.goto 4, 3) := by decide +kernel
theorem dX3_moved_27 : decode cX3_moved 27 = .ok (.iconst 0, 1) := by decide +kernel
theorem dX3_moved_28 : decode cX3_moved 28 = .ok (.istore_n 3, 1) := by decide +kernel
theorem dX3_moved_29 : decode cX3_moved 29 = .ok (.iload_n 2, 1) := by decide +kernel
theorem dX3_moved_30 : decode cX3_moved 30 = .ok (.istore 4, 2) := by decide +kernel
theorem dX3_moved_32 : decode cX3_moved 32 = .ok (.iload 4, 2) := by decide +kernel
theorem dX3_moved_34 : decode cX3_moved 34 = .ok (.invokestatic 67, 3) := by decide +kernel
theorem dX3_moved_37 : decode cX3_moved 37 = .ok (.ifCond .eq 25, 3) := by decide +kernel
theorem dX3_moved_40 : decode cX3_moved 40 = .ok (.aload_n 0, 1) := by decide +kernel
theorem dX3_moved_41 : decode cX3_moved 41 = .ok (.iload 4, 2) := by decide +kernel
theorem dX3_moved_43 : decode cX3_moved 43 = .ok (.invokevirtual 71, 3) := by decide +kernel
theorem dX3_moved_46 : decode cX3_moved 46 = .ok (.ifCond .ne 16, 3) := by decide +kernel
theorem dX3_moved_49 : decode cX3_moved 49 = .ok (.iload_n 3, 1) := by decide +kernel
theorem dX3_moved_50 : decode cX3_moved 50 = .ok (.ifCond .eq 12, 3) := by decide +kernel
theorem dX3_moved_53 : decode cX3_moved 53 = .ok (.iload 4, 2) := by decide +kernel
theorem dX3_moved_55 : decode cX3_moved 55 = .ok (.iload_n 3, 1) := by decide +kernel
theorem dX3_moved_56 : decode cX3_moved 56 = .ok (.iadd, 1) := by decide +kernel
theorem dX3_moved_57 : decode cX3_moved 57 = .ok (.istore 4, 2) := by decide +kernel
theorem dX3_moved_59 : decode cX3_moved 59 = .ok (.goto (-27), 3) := by decide +kernel
theorem dX3_moved_62 : decode cX3_moved 62 = .ok (.iload 4, 2) := by decide +kernel
theorem dX3_moved_64 : decode cX3_moved 64 = .ok (.invokestatic 67, 3) := by decide +kernel
theorem dX3_moved_67 : decode cX3_moved 67 = .ok (.ifCond .eq 17, 3) := by decide +kernel
theorem dX3_moved_70 : decode cX3_moved 70 = .ok (.aload_n 0, 1) := by decide +kernel
theorem dX3_moved_71 : decode cX3_moved 71 = .ok (.iload 4, 2) := by decide +kernel
theorem dX3_moved_73 : decode cX3_moved 73 = .ok (.invokevirtual 71, 3) := by decide +kernel
theorem dX3_moved_76 : decode cX3_moved 76 = .ok (.ifCond .eq 8, 3) := by decide +kernel
theorem dX3_moved_79 : decode cX3_moved 79 = .ok (.iload 4, 2) := by decide +kernel
theorem dX3_moved_81 : decode cX3_moved 81 = .ok (.goto 4, 3) := by decide +kernel
theorem dX3_moved_84 : decode cX3_moved 84 = .ok (.iconst (-1), 1) := by decide +kernel
theorem dX3_moved_85 : decode cX3_moved 85 = .ok (.ireturn, 1) := by decide +kernel
theorem dX3_marks_0 : decode cX3_marks 0 = .ok (.iconst 0, 1) := by decide +kernel
theorem dX3_marks_1 : decode cX3_marks 1 = .ok (.istore_n 1, 1) := by decide +kernel
theorem dX3_marks_2 : decode cX3_marks 2 = .ok (.iload_n 1, 1) := by decide +kernel
theorem dX3_marks_3 : decode cX3_marks 3 = .ok (.aload_n 0, 1) := by decide +kernel
theorem dX3_marks_4 : decode cX3_marks 4 = .ok (.getfield 64, 3) := by decide +kernel
theorem dX3_marks_7 : decode cX3_marks 7 = .ok (.if_icmp .ge 155, 3) := by decide +kernel
theorem dX3_marks_10 : decode cX3_marks 10 = .ok (.iconst 0, 1) := by decide +kernel
theorem dX3_marks_11 : decode cX3_marks 11 = .ok (.istore_n 2, 1) := by decide +kernel
theorem dX3_marks_12 : decode cX3_marks 12 = .ok (.iload_n 2, 1) := by decide +kernel
theorem dX3_marks_13 : decode cX3_marks 13 = .ok (.sipush 720, 3) := by decide +kernel
theorem dX3_marks_16 : decode cX3_marks 16 = .ok (.if_icmp .ge 22, 3) := by decide +kernel
theorem dX3_marks_19 : decode cX3_marks 19 = .ok (.aload_n 0, 1) := by decide +kernel
theorem dX3_marks_20 : decode cX3_marks 20 = .ok (.getfield 41, 3) := by decide +kernel
theorem dX3_marks_23 : decode cX3_marks 23 = .ok (.sipush 720, 3) := by decide +kernel
theorem dX3_marks_26 : decode cX3_marks 26 = .ok (.iload_n 1, 1) := by decide +kernel
theorem dX3_marks_27 : decode cX3_marks 27 = .ok (.imul, 1) := by decide +kernel
theorem dX3_marks_28 : decode cX3_marks 28 = .ok (.iload_n 2, 1) := by decide +kernel
theorem dX3_marks_29 : decode cX3_marks 29 = .ok (.iadd, 1) := by decide +kernel
theorem dX3_marks_30 : decode cX3_marks 30 = .ok (.iconst 0, 1) := by decide +kernel
theorem dX3_marks_31 : decode cX3_marks 31 = .ok (.bastore, 1) := by decide +kernel
theorem dX3_marks_32 : decode cX3_marks 32 = .ok (.iinc 2 1, 3) := by decide +kernel
theorem dX3_marks_35 : decode cX3_marks 35 = .ok (.goto (-23), 3) := by decide +kernel
theorem dX3_marks_38 : decode cX3_marks 38 = .ok (.iconst 0, 1) := by decide +kernel
theorem dX3_marks_39 : decode cX3_marks 39 = .ok (.istore_n 2, 1) := by decide +kernel
theorem dX3_marks_40 : decode cX3_marks 40 = .ok (.iload_n 2, 1) := by decide +kernel
theorem dX3_marks_41 : decode cX3_marks 41 = .ok (.sipush 720, 3) := by decide +kernel
theorem dX3_marks_44 : decode cX3_marks 44 = .ok (.if_icmp .ge 47, 3) := by decide +kernel
theorem dX3_marks_47 : decode cX3_marks 47 = .ok (.aload_n 0, 1) := by decide +kernel
theorem dX3_marks_48 : decode cX3_marks 48 = .ok (.iload_n 1, 1) := by decide +kernel
theorem dX3_marks_49 : decode cX3_marks 49 = .ok (.iload_n 2, 1) := by decide +kernel
theorem dX3_marks_50 : decode cX3_marks 50 = .ok (.invokevirtual 91, 3) := by decide +kernel
theorem dX3_marks_53 : decode cX3_marks 53 = .ok (.ifCond .eq 12, 3) := by decide +kernel
theorem dX3_marks_56 : decode cX3_marks 56 = .ok (.aload_n 0, 1) := by decide +kernel
theorem dX3_marks_57 : decode cX3_marks 57 = .ok (.iload_n 1, 1) := by decide +kernel
theorem dX3_marks_58 : decode cX3_marks 58 = .ok (.iload_n 2, 1) := by decide +kernel
theorem dX3_marks_59 : decode cX3_marks 59 = .ok (.invokevirtual 94, 3) := by decide +kernel
theorem dX3_marks_62 : decode cX3_marks 62 = .ok (.goto 4, 3) := by decide +kernel
theorem dX3_marks_65 : decode cX3_marks 65 = .ok (.iconst (-1), 1) := by decide +kernel
theorem dX3_marks_66 : decode cX3_marks 66 = .ok (.istore_n 3, 1) := by decide +kernel
theorem dX3_marks_67 : decode cX3_marks 67 = .ok (.iload_n 3, 1) := by decide +kernel
theorem dX3_marks_68 : decode cX3_marks 68 = .ok (.iconst (-1), 1) := by decide +kernel
theorem dX3_marks_69 : decode cX3_marks 69 = .ok (.if_icmp .eq 16, 3) := by decide +kernel
theorem dX3_marks_72 : decode cX3_marks 72 = .ok (.aload_n 0, 1) := by decide +kernel
theorem dX3_marks_73 : decode cX3_marks 73 = .ok (.getfield 41, 3) := by decide +kernel
theorem dX3_marks_76 : decode cX3_marks 76 = .ok (.sipush 720, 3) := by decide +kernel
theorem dX3_marks_79 : decode cX3_marks 79 = .ok (.iload_n 1, 1) := by decide +kernel
theorem dX3_marks_80 : decode cX3_marks 80 = .ok (.imul, 1) := by decide +kernel
theorem dX3_marks_81 : decode cX3_marks 81 = .ok (.iload_n 3, 1) := by decide +kernel
theorem dX3_marks_82 : decode cX3_marks 82 = .ok (.iadd, 1) := by decide +kernel
theorem dX3_marks_83 : decode cX3_marks 83 = .ok (.iconst 1, 1) := by decide +kernel
theorem dX3_marks_84 : decode cX3_marks 84 = .ok (.bastore, 1) := by decide +kernel
theorem dX3_marks_85 : decode cX3_marks 85 = .ok (.iinc 2 1, 3) := by decide +kernel
theorem dX3_marks_88 : decode cX3_marks 88 = .ok (.goto (-48), 3) := by decide +kernel
theorem dX3_marks_91 : decode cX3_marks 91 = .ok (.aload_n 0, 1) := by decide +kernel
theorem dX3_marks_92 : decode cX3_marks 92 = .ok (.getfield 47, 3) := by decide +kernel
theorem dX3_marks_95 : decode cX3_marks 95 = .ok (.iload_n 1, 1) := by decide +kernel
theorem dX3_marks_96 : decode cX3_marks 96 = .ok (.iconst 0, 1) := by decide +kernel
theorem dX3_marks_97 : decode cX3_marks 97 = .ok (.iastore, 1) := by decide +kernel
theorem dX3_marks_98 : decode cX3_marks 98 = .ok (.iconst 0, 1) := by decide +kernel
theorem dX3_marks_99 : decode cX3_marks 99 = .ok (.istore_n 2, 1) := by decide +kernel
theorem dX3_marks_100 : decode cX3_marks 100 = .ok (.iload_n 2, 1) := by decide +kernel
theorem dX3_marks_101 : decode cX3_marks 101 = .ok (.sipush 720, 3) := by decide +kernel
theorem dX3_marks_104 : decode cX3_marks 104 = .ok (.if_icmp .ge 52, 3) := by decide +kernel
theorem dX3_marks_107 : decode cX3_marks 107 = .ok (.aload_n 0, 1) := by decide +kernel
theorem dX3_marks_108 : decode cX3_marks 108 = .ok (.getfield 41, 3) := by decide +kernel
theorem dX3_marks_111 : decode cX3_marks 111 = .ok (.sipush 720, 3) := by decide +kernel
theorem dX3_marks_114 : decode cX3_marks 114 = .ok (.iload_n 1, 1) := by decide +kernel
theorem dX3_marks_115 : decode cX3_marks 115 = .ok (.imul, 1) := by decide +kernel
theorem dX3_marks_116 : decode cX3_marks 116 = .ok (.iload_n 2, 1) := by decide +kernel
theorem dX3_marks_117 : decode cX3_marks 117 = .ok (.iadd, 1) := by decide +kernel
theorem dX3_marks_118 : decode cX3_marks 118 = .ok (.baload, 1) := by decide +kernel
theorem dX3_marks_119 : decode cX3_marks 119 = .ok (.ifCond .eq 31, 3) := by decide +kernel
theorem dX3_marks_122 : decode cX3_marks 122 = .ok (.aload_n 0, 1) := by decide +kernel
theorem dX3_marks_123 : decode cX3_marks 123 = .ok (.getfield 44, 3) := by decide +kernel
theorem dX3_marks_126 : decode cX3_marks 126 = .ok (.sipush 720, 3) := by decide +kernel
theorem dX3_marks_129 : decode cX3_marks 129 = .ok (.iload_n 1, 1) := by decide +kernel
theorem dX3_marks_130 : decode cX3_marks 130 = .ok (.imul, 1) := by decide +kernel
theorem dX3_marks_131 : decode cX3_marks 131 = .ok (.aload_n 0, 1) := by decide +kernel
theorem dX3_marks_132 : decode cX3_marks 132 = .ok (.getfield 47, 3) := by decide +kernel
theorem dX3_marks_135 : decode cX3_marks 135 = .ok (.iload_n 1, 1) := by decide +kernel
theorem dX3_marks_136 : decode cX3_marks 136 = .ok (.iaload, 1) := by decide +kernel
theorem dX3_marks_137 : decode cX3_marks 137 = .ok (.iadd, 1) := by decide +kernel
theorem dX3_marks_138 : decode cX3_marks 138 = .ok (.iload_n 2, 1) := by decide +kernel
theorem dX3_marks_139 : decode cX3_marks 139 = .ok (.iastore, 1) := by decide +kernel
theorem dX3_marks_140 : decode cX3_marks 140 = .ok (.aload_n 0, 1) := by decide +kernel
theorem dX3_marks_141 : decode cX3_marks 141 = .ok (.getfield 47, 3) := by decide +kernel
theorem dX3_marks_144 : decode cX3_marks 144 = .ok (.iload_n 1, 1) := by decide +kernel
theorem dX3_marks_145 : decode cX3_marks 145 = .ok (.dup2, 1) := by decide +kernel
theorem dX3_marks_146 : decode cX3_marks 146 = .ok (.iaload, 1) := by decide +kernel
theorem dX3_marks_147 : decode cX3_marks 147 = .ok (.iconst 1, 1) := by decide +kernel
theorem dX3_marks_148 : decode cX3_marks 148 = .ok (.iadd, 1) := by decide +kernel
theorem dX3_marks_149 : decode cX3_marks 149 = .ok (.iastore, 1) := by decide +kernel
theorem dX3_marks_150 : decode cX3_marks 150 = .ok (.iinc 2 1, 3) := by decide +kernel
theorem dX3_marks_153 : decode cX3_marks 153 = .ok (.goto (-53), 3) := by decide +kernel
theorem dX3_marks_156 : decode cX3_marks 156 = .ok (.iinc 1 1, 3) := by decide +kernel
theorem dX3_marks_159 : decode cX3_marks 159 = .ok (.goto (-157), 3) := by decide +kernel
theorem dX3_marks_162 : decode cX3_marks 162 = .ok (.return_, 1) := by decide +kernel
theorem dX3_dueAt_0 : decode cX3_dueAt 0 = .ok (.iload_n 2, 1) := by decide +kernel
theorem dX3_dueAt_1 : decode cX3_dueAt 1 = .ok (.aload_n 0, 1) := by decide +kernel
theorem dX3_dueAt_2 : decode cX3_dueAt 2 = .ok (.getfield 47, 3) := by decide +kernel
theorem dX3_dueAt_5 : decode cX3_dueAt 5 = .ok (.iload_n 1, 1) := by decide +kernel
theorem dX3_dueAt_6 : decode cX3_dueAt 6 = .ok (.iaload, 1) := by decide +kernel
theorem dX3_dueAt_7 : decode cX3_dueAt 7 = .ok (.if_icmp .ge 18, 3) := by decide +kernel
theorem dX3_dueAt_10 : decode cX3_dueAt 10 = .ok (.aload_n 0, 1) := by decide +kernel
theorem dX3_dueAt_11 : decode cX3_dueAt 11 = .ok (.getfield 44, 3) := by decide +kernel
theorem dX3_dueAt_14 : decode cX3_dueAt 14 = .ok (.sipush 720, 3) := by decide +kernel
theorem dX3_dueAt_17 : decode cX3_dueAt 17 = .ok (.iload_n 1, 1) := by decide +kernel
theorem dX3_dueAt_18 : decode cX3_dueAt 18 = .ok (.imul, 1) := by decide +kernel
theorem dX3_dueAt_19 : decode cX3_dueAt 19 = .ok (.iload_n 2, 1) := by decide +kernel
theorem dX3_dueAt_20 : decode cX3_dueAt 20 = .ok (.iadd, 1) := by decide +kernel
theorem dX3_dueAt_21 : decode cX3_dueAt 21 = .ok (.iaload, 1) := by decide +kernel
theorem dX3_dueAt_22 : decode cX3_dueAt 22 = .ok (.goto 4, 3) := by decide +kernel
theorem dX3_dueAt_25 : decode cX3_dueAt 25 = .ok (.iconst (-1), 1) := by decide +kernel
theorem dX3_dueAt_26 : decode cX3_dueAt 26 = .ok (.ireturn, 1) := by decide +kernel
theorem dX3_dueDay_0 : decode cX3_dueDay 0 = .ok (.aload_n 0, 1) := by decide +kernel
theorem dX3_dueDay_1 : decode cX3_dueDay 1 = .ok (.aload_n 0, 1) := by decide +kernel
theorem dX3_dueDay_2 : decode cX3_dueDay 2 = .ok (.iload_n 1, 1) := by decide +kernel
theorem dX3_dueDay_3 : decode cX3_dueDay 3 = .ok (.invokevirtual 84, 3) := by decide +kernel
theorem dX3_dueDay_6 : decode cX3_dueDay 6 = .ok (.ifCond .eq 11, 3) := by decide +kernel
theorem dX3_dueDay_9 : decode cX3_dueDay 9 = .ok (.iload_n 2, 1) := by decide +kernel
theorem dX3_dueDay_10 : decode cX3_dueDay 10 = .ok (.ifCond .lt 7, 3) := by decide +kernel
theorem dX3_dueDay_13 : decode cX3_dueDay 13 = .ok (.iconst 0, 1) := by decide +kernel
theorem dX3_dueDay_14 : decode cX3_dueDay 14 = .ok (.goto 4, 3) := by decide +kernel
theorem dX3_dueDay_17 : decode cX3_dueDay 17 = .ok (.iconst 1, 1) := by decide +kernel
theorem dX3_dueDay_18 : decode cX3_dueDay 18 = .ok (.putfield 56, 3) := by decide +kernel
theorem dX3_dueDay_21 : decode cX3_dueDay 21 = .ok (.aload_n 0, 1) := by decide +kernel
theorem dX3_dueDay_22 : decode cX3_dueDay 22 = .ok (.invokevirtual 97, 3) := by decide +kernel
theorem dX3_dueDay_25 : decode cX3_dueDay 25 = .ok (.aload_n 0, 1) := by decide +kernel
theorem dX3_dueDay_26 : decode cX3_dueDay 26 = .ok (.getfield 56, 3) := by decide +kernel
theorem dX3_dueDay_29 : decode cX3_dueDay 29 = .ok (.ifCond .le 7, 3) := by decide +kernel
theorem dX3_dueDay_32 : decode cX3_dueDay 32 = .ok (.iconst 0, 1) := by decide +kernel
theorem dX3_dueDay_33 : decode cX3_dueDay 33 = .ok (.goto 9, 3) := by decide +kernel
theorem dX3_dueDay_36 : decode cX3_dueDay 36 = .ok (.aload_n 0, 1) := by decide +kernel
theorem dX3_dueDay_37 : decode cX3_dueDay 37 = .ok (.iload_n 1, 1) := by decide +kernel
theorem dX3_dueDay_38 : decode cX3_dueDay 38 = .ok (.iload_n 2, 1) := by decide +kernel
theorem dX3_dueDay_39 : decode cX3_dueDay 39 = .ok (.invokevirtual 100, 3) := by decide +kernel
theorem dX3_dueDay_42 : decode cX3_dueDay 42 = .ok (.ireturn, 1) := by decide +kernel
theorem dX3_countBefore_0 : decode cX3_countBefore 0 = .ok (.iconst 0, 1) := by decide +kernel
theorem dX3_countBefore_1 : decode cX3_countBefore 1 = .ok (.istore_n 3, 1) := by decide +kernel
theorem dX3_countBefore_2 : decode cX3_countBefore 2 = .ok (.iload_n 3, 1) := by decide +kernel
theorem dX3_countBefore_3 : decode cX3_countBefore 3 = .ok (.aload_n 0, 1) := by decide +kernel
theorem dX3_countBefore_4 : decode cX3_countBefore 4 = .ok (.getfield 47, 3) := by decide +kernel
theorem dX3_countBefore_7 : decode cX3_countBefore 7 = .ok (.iload_n 1, 1) := by decide +kernel
theorem dX3_countBefore_8 : decode cX3_countBefore 8 = .ok (.iaload, 1) := by decide +kernel
theorem dX3_countBefore_9 : decode cX3_countBefore 9 = .ok (.if_icmp .ge 25, 3) := by decide +kernel
theorem dX3_countBefore_12 : decode cX3_countBefore 12 = .ok (.aload_n 0, 1) := by decide +kernel
theorem dX3_countBefore_13 : decode cX3_countBefore 13 = .ok (.getfield 44, 3) := by decide +kernel
theorem dX3_countBefore_16 : decode cX3_countBefore 16 = .ok (.sipush 720, 3) := by decide +kernel
theorem dX3_countBefore_19 : decode cX3_countBefore 19 = .ok (.iload_n 1, 1) := by decide +kernel
theorem dX3_countBefore_20 : decode cX3_countBefore 20 = .ok (.imul, 1) := by decide +kernel
theorem dX3_countBefore_21 : decode cX3_countBefore 21 = .ok (.iload_n 3, 1) := by decide +kernel
theorem dX3_countBefore_22 : decode cX3_countBefore 22 = .ok (.iadd, 1) := by decide +kernel
theorem dX3_countBefore_23 : decode cX3_countBefore 23 = .ok (.iaload, 1) := by decide +kernel
theorem dX3_countBefore_24 : decode cX3_countBefore 24 = .ok (.iload_n 2, 1) := by decide +kernel
theorem dX3_countBefore_25 : decode cX3_countBefore 25 = .ok (.if_icmp .ge 9, 3) := by decide +kernel
theorem dX3_countBefore_28 : decode cX3_countBefore 28 = .ok (.iinc 3 1, 3) := by decide +kernel
theorem dX3_countBefore_31 : decode cX3_countBefore 31 = .ok (.goto (-29), 3) := by decide +kernel
theorem dX3_countBefore_34 : decode cX3_countBefore 34 = .ok (.iload_n 3, 1) := by decide +kernel
theorem dX3_countBefore_35 : decode cX3_countBefore 35 = .ok (.ireturn, 1) := by decide +kernel
theorem dX3_duties_0 : decode cX3_duties 0 = .ok (.aload_n 0, 1) := by decide +kernel
theorem dX3_duties_1 : decode cX3_duties 1 = .ok (.aload_n 0, 1) := by decide +kernel
theorem dX3_duties_2 : decode cX3_duties 2 = .ok (.iload_n 1, 1) := by decide +kernel
theorem dX3_duties_3 : decode cX3_duties 3 = .ok (.invokevirtual 84, 3) := by decide +kernel
theorem dX3_duties_6 : decode cX3_duties 6 = .ok (.ifCond .eq 7, 3) := by decide +kernel
theorem dX3_duties_9 : decode cX3_duties 9 = .ok (.iconst 0, 1) := by decide +kernel
theorem dX3_duties_10 : decode cX3_duties 10 = .ok (.goto 4, 3) := by decide +kernel
theorem dX3_duties_13 : decode cX3_duties 13 = .ok (.iconst 1, 1) := by decide +kernel
theorem dX3_duties_14 : decode cX3_duties 14 = .ok (.putfield 56, 3) := by decide +kernel
theorem dX3_duties_17 : decode cX3_duties 17 = .ok (.aload_n 0, 1) := by decide +kernel
theorem dX3_duties_18 : decode cX3_duties 18 = .ok (.invokevirtual 97, 3) := by decide +kernel
theorem dX3_duties_21 : decode cX3_duties 21 = .ok (.aload_n 0, 1) := by decide +kernel
theorem dX3_duties_22 : decode cX3_duties 22 = .ok (.getfield 56, 3) := by decide +kernel
theorem dX3_duties_25 : decode cX3_duties 25 = .ok (.ifCond .le 7, 3) := by decide +kernel
theorem dX3_duties_28 : decode cX3_duties 28 = .ok (.iconst 0, 1) := by decide +kernel
theorem dX3_duties_29 : decode cX3_duties 29 = .ok (.goto 11, 3) := by decide +kernel
theorem dX3_duties_32 : decode cX3_duties 32 = .ok (.aload_n 0, 1) := by decide +kernel
theorem dX3_duties_33 : decode cX3_duties 33 = .ok (.iload_n 1, 1) := by decide +kernel
theorem dX3_duties_34 : decode cX3_duties 34 = .ok (.sipush 720, 3) := by decide +kernel
theorem dX3_duties_37 : decode cX3_duties 37 = .ok (.invokevirtual 103, 3) := by decide +kernel
theorem dX3_duties_40 : decode cX3_duties 40 = .ok (.ireturn, 1) := by decide +kernel
theorem dX3_firstFrom_0 : decode cX3_firstFrom 0 = .ok (.aload_n 0, 1) := by decide +kernel
theorem dX3_firstFrom_1 : decode cX3_firstFrom 1 = .ok (.aload_n 0, 1) := by decide +kernel
theorem dX3_firstFrom_2 : decode cX3_firstFrom 2 = .ok (.iload_n 1, 1) := by decide +kernel
theorem dX3_firstFrom_3 : decode cX3_firstFrom 3 = .ok (.invokevirtual 84, 3) := by decide +kernel
theorem dX3_firstFrom_6 : decode cX3_firstFrom 6 = .ok (.ifCond .eq 14, 3) := by decide +kernel
theorem dX3_firstFrom_9 : decode cX3_firstFrom 9 = .ok (.iload_n 2, 1) := by decide +kernel
theorem dX3_firstFrom_10 : decode cX3_firstFrom 10 = .ok (.invokestatic 67, 3) := by decide +kernel
theorem dX3_firstFrom_13 : decode cX3_firstFrom 13 = .ok (.ifCond .eq 7, 3) := by decide +kernel
theorem dX3_firstFrom_16 : decode cX3_firstFrom 16 = .ok (.iconst 0, 1) := by decide +kernel
theorem dX3_firstFrom_17 : decode cX3_firstFrom 17 = .ok (.goto 4, 3) := by decide +kernel
theorem dX3_firstFrom_20 : decode cX3_firstFrom 20 = .ok (.iconst 1, 1) := by decide +kernel
theorem dX3_firstFrom_21 : decode cX3_firstFrom 21 = .ok (.putfield 56, 3) := by decide +kernel
theorem dX3_firstFrom_24 : decode cX3_firstFrom 24 = .ok (.aload_n 0, 1) := by decide +kernel
theorem dX3_firstFrom_25 : decode cX3_firstFrom 25 = .ok (.invokevirtual 97, 3) := by decide +kernel
theorem dX3_firstFrom_28 : decode cX3_firstFrom 28 = .ok (.aload_n 0, 1) := by decide +kernel
theorem dX3_firstFrom_29 : decode cX3_firstFrom 29 = .ok (.getfield 56, 3) := by decide +kernel
theorem dX3_firstFrom_32 : decode cX3_firstFrom 32 = .ok (.ifCond .le 7, 3) := by decide +kernel
theorem dX3_firstFrom_35 : decode cX3_firstFrom 35 = .ok (.iconst 0, 1) := by decide +kernel
theorem dX3_firstFrom_36 : decode cX3_firstFrom 36 = .ok (.goto 14, 3) := by decide +kernel
theorem dX3_firstFrom_39 : decode cX3_firstFrom 39 = .ok (.aload_n 0, 1) := by decide +kernel
theorem dX3_firstFrom_40 : decode cX3_firstFrom 40 = .ok (.iload_n 1, 1) := by decide +kernel
theorem dX3_firstFrom_41 : decode cX3_firstFrom 41 = .ok (.aload_n 0, 1) := by decide +kernel
theorem dX3_firstFrom_42 : decode cX3_firstFrom 42 = .ok (.iload_n 1, 1) := by decide +kernel
theorem dX3_firstFrom_43 : decode cX3_firstFrom 43 = .ok (.iload_n 2, 1) := by decide +kernel
theorem dX3_firstFrom_44 : decode cX3_firstFrom 44 = .ok (.invokevirtual 103, 3) := by decide +kernel
theorem dX3_firstFrom_47 : decode cX3_firstFrom 47 = .ok (.invokevirtual 100, 3) := by decide +kernel
theorem dX3_firstFrom_50 : decode cX3_firstFrom 50 = .ok (.ireturn, 1) := by decide +kernel
theorem dX3_nextDue_0 : decode cX3_nextDue 0 = .ok (.aload_n 0, 1) := by decide +kernel
theorem dX3_nextDue_1 : decode cX3_nextDue 1 = .ok (.iload_n 1, 1) := by decide +kernel
theorem dX3_nextDue_2 : decode cX3_nextDue 2 = .ok (.iload_n 2, 1) := by decide +kernel
theorem dX3_nextDue_3 : decode cX3_nextDue 3 = .ok (.invokevirtual 106, 3) := by decide +kernel
theorem dX3_nextDue_6 : decode cX3_nextDue 6 = .ok (.ireturn, 1) := by decide +kernel
theorem dX3_nextDueByWalking_0 : decode cX3_nextDueByWalking 0 = .ok (.aload_n 0, 1) := by decide +kernel
theorem dX3_nextDueByWalking_1 : decode cX3_nextDueByWalking 1 = .ok (.iload_n 1, 1) := by decide +kernel
theorem dX3_nextDueByWalking_2 : decode cX3_nextDueByWalking 2 = .ok (.iload_n 2, 1) := by decide +kernel
theorem dX3_nextDueByWalking_3 : decode cX3_nextDueByWalking 3 = .ok (.invokevirtual 106, 3) := by decide +kernel
theorem dX3_nextDueByWalking_6 : decode cX3_nextDueByWalking 6 = .ok (.ireturn, 1) := by decide +kernel
theorem dX3_upcoming_0 : decode cX3_upcoming 0 = .ok (.aload_n 0, 1) := by decide +kernel
theorem dX3_upcoming_1 : decode cX3_upcoming 1 = .ok (.iload_n 1, 1) := by decide +kernel
theorem dX3_upcoming_2 : decode cX3_upcoming 2 = .ok (.invokestatic 67, 3) := by decide +kernel
theorem dX3_upcoming_5 : decode cX3_upcoming 5 = .ok (.ifCond .eq 11, 3) := by decide +kernel
theorem dX3_upcoming_8 : decode cX3_upcoming 8 = .ok (.iload_n 2, 1) := by decide +kernel
theorem dX3_upcoming_9 : decode cX3_upcoming 9 = .ok (.ifCond .lt 7, 3) := by decide +kernel
theorem dX3_upcoming_12 : decode cX3_upcoming 12 = .ok (.iconst 0, 1) := by decide +kernel
theorem dX3_upcoming_13 : decode cX3_upcoming 13 = .ok (.goto 4, 3) := by decide +kernel
theorem dX3_upcoming_16 : decode cX3_upcoming 16 = .ok (.iconst 1, 1) := by decide +kernel
theorem dX3_upcoming_17 : decode cX3_upcoming 17 = .ok (.putfield 56, 3) := by decide +kernel
theorem dX3_upcoming_20 : decode cX3_upcoming 20 = .ok (.aload_n 0, 1) := by decide +kernel
theorem dX3_upcoming_21 : decode cX3_upcoming 21 = .ok (.invokevirtual 97, 3) := by decide +kernel
theorem dX3_upcoming_24 : decode cX3_upcoming 24 = .ok (.iload_n 2, 1) := by decide +kernel
theorem dX3_upcoming_25 : decode cX3_upcoming 25 = .ok (.istore_n 3, 1) := by decide +kernel
theorem dX3_upcoming_26 : decode cX3_upcoming 26 = .ok (.iload_n 1, 1) := by decide +kernel
theorem dX3_upcoming_27 : decode cX3_upcoming 27 = .ok (.istore 4, 2) := by decide +kernel
theorem dX3_upcoming_29 : decode cX3_upcoming 29 = .ok (.iload 4, 2) := by decide +kernel
theorem dX3_upcoming_31 : decode cX3_upcoming 31 = .ok (.sipush 720, 3) := by decide +kernel
theorem dX3_upcoming_34 : decode cX3_upcoming 34 = .ok (.if_icmp .ge 67, 3) := by decide +kernel
theorem dX3_upcoming_37 : decode cX3_upcoming 37 = .ok (.aload_n 0, 1) := by decide +kernel
theorem dX3_upcoming_38 : decode cX3_upcoming 38 = .ok (.getfield 56, 3) := by decide +kernel
theorem dX3_upcoming_41 : decode cX3_upcoming 41 = .ok (.ifCond .ne 60, 3) := by decide +kernel
theorem dX3_upcoming_44 : decode cX3_upcoming 44 = .ok (.iconst 0, 1) := by decide +kernel
theorem dX3_upcoming_45 : decode cX3_upcoming 45 = .ok (.istore 5, 2) := by decide +kernel
theorem dX3_upcoming_47 : decode cX3_upcoming 47 = .ok (.iload 5, 2) := by decide +kernel
theorem dX3_upcoming_49 : decode cX3_upcoming 49 = .ok (.aload_n 0, 1) := by decide +kernel
theorem dX3_upcoming_50 : decode cX3_upcoming 50 = .ok (.getfield 64, 3) := by decide +kernel
theorem dX3_upcoming_53 : decode cX3_upcoming 53 = .ok (.if_icmp .ge 42, 3) := by decide +kernel
theorem dX3_upcoming_56 : decode cX3_upcoming 56 = .ok (.aload_n 0, 1) := by decide +kernel
theorem dX3_upcoming_57 : decode cX3_upcoming 57 = .ok (.getfield 41, 3) := by decide +kernel
theorem dX3_upcoming_60 : decode cX3_upcoming 60 = .ok (.sipush 720, 3) := by decide +kernel
theorem dX3_upcoming_63 : decode cX3_upcoming 63 = .ok (.iload 5, 2) := by decide +kernel
theorem dX3_upcoming_65 : decode cX3_upcoming 65 = .ok (.imul, 1) := by decide +kernel
theorem dX3_upcoming_66 : decode cX3_upcoming 66 = .ok (.iload 4, 2) := by decide +kernel
theorem dX3_upcoming_68 : decode cX3_upcoming 68 = .ok (.iadd, 1) := by decide +kernel
theorem dX3_upcoming_69 : decode cX3_upcoming 69 = .ok (.baload, 1) := by decide +kernel
theorem dX3_upcoming_70 : decode cX3_upcoming 70 = .ok (.ifCond .eq 19, 3) := by decide +kernel
theorem dX3_upcoming_73 : decode cX3_upcoming 73 = .ok (.iload_n 3, 1) := by decide +kernel
theorem dX3_upcoming_74 : decode cX3_upcoming 74 = .ok (.ifCond .ne 12, 3) := by decide +kernel
theorem dX3_upcoming_77 : decode cX3_upcoming 77 = .ok (.bipush 10, 2) := by decide +kernel
theorem dX3_upcoming_79 : decode cX3_upcoming 79 = .ok (.iload 4, 2) := by decide +kernel
theorem dX3_upcoming_81 : decode cX3_upcoming 81 = .ok (.imul, 1) := by decide +kernel
theorem dX3_upcoming_82 : decode cX3_upcoming 82 = .ok (.iload 5, 2) := by decide +kernel
theorem dX3_upcoming_84 : decode cX3_upcoming 84 = .ok (.iadd, 1) := by decide +kernel
theorem dX3_upcoming_85 : decode cX3_upcoming 85 = .ok (.ireturn, 1) := by decide +kernel
theorem dX3_upcoming_86 : decode cX3_upcoming 86 = .ok (.iinc 3 (-1), 3) := by decide +kernel
theorem dX3_upcoming_89 : decode cX3_upcoming 89 = .ok (.iinc 5 1, 3) := by decide +kernel
theorem dX3_upcoming_92 : decode cX3_upcoming 92 = .ok (.goto (-45), 3) := by decide +kernel
theorem dX3_upcoming_95 : decode cX3_upcoming 95 = .ok (.iinc 4 1, 3) := by decide +kernel
theorem dX3_upcoming_98 : decode cX3_upcoming 98 = .ok (.goto (-69), 3) := by decide +kernel
theorem dX3_upcoming_101 : decode cX3_upcoming 101 = .ok (.aload_n 0, 1) := by decide +kernel
theorem dX3_upcoming_102 : decode cX3_upcoming 102 = .ok (.getfield 56, 3) := by decide +kernel
theorem dX3_upcoming_105 : decode cX3_upcoming 105 = .ok (.ifCond .le 7, 3) := by decide +kernel
theorem dX3_upcoming_108 : decode cX3_upcoming 108 = .ok (.iconst 0, 1) := by decide +kernel
theorem dX3_upcoming_109 : decode cX3_upcoming 109 = .ok (.goto 4, 3) := by decide +kernel
theorem dX3_upcoming_112 : decode cX3_upcoming 112 = .ok (.iconst (-1), 1) := by decide +kernel
theorem dX3_upcoming_113 : decode cX3_upcoming 113 = .ok (.ireturn, 1) := by decide +kernel
theorem dX3_blocks_0 : decode cX3_blocks 0 = .ok (.aload_n 0, 1) := by decide +kernel
theorem dX3_blocks_1 : decode cX3_blocks 1 = .ok (.iload_n 2, 1) := by decide +kernel
theorem dX3_blocks_2 : decode cX3_blocks 2 = .ok (.aload_n 1, 1) := by decide +kernel
theorem dX3_blocks_3 : decode cX3_blocks 3 = .ok (.iload_n 2, 1) := by decide +kernel
theorem dX3_blocks_4 : decode cX3_blocks 4 = .ok (.iaload, 1) := by decide +kernel
theorem dX3_blocks_5 : decode cX3_blocks 5 = .ok (.invokevirtual 100, 3) := by decide +kernel
theorem dX3_blocks_8 : decode cX3_blocks 8 = .ok (.istore_n 3, 1) := by decide +kernel
theorem dX3_blocks_9 : decode cX3_blocks 9 = .ok (.iconst (-1), 1) := by decide +kernel
theorem dX3_blocks_10 : decode cX3_blocks 10 = .ok (.istore 4, 2) := by decide +kernel
theorem dX3_blocks_12 : decode cX3_blocks 12 = .ok (.aload_n 0, 1) := by decide +kernel
theorem dX3_blocks_13 : decode cX3_blocks 13 = .ok (.getfield 64, 3) := by decide +kernel
theorem dX3_blocks_16 : decode cX3_blocks 16 = .ok (.iconst 1, 1) := by decide +kernel
theorem dX3_blocks_17 : decode cX3_blocks 17 = .ok (.isub, 1) := by decide +kernel
theorem dX3_blocks_18 : decode cX3_blocks 18 = .ok (.istore 5, 2) := by decide +kernel
theorem dX3_blocks_20 : decode cX3_blocks 20 = .ok (.iload 5, 2) := by decide +kernel
theorem dX3_blocks_22 : decode cX3_blocks 22 = .ok (.ifCond .lt 66, 3) := by decide +kernel
theorem dX3_blocks_25 : decode cX3_blocks 25 = .ok (.iload_n 3, 1) := by decide +kernel
theorem dX3_blocks_26 : decode cX3_blocks 26 = .ok (.iconst (-1), 1) := by decide +kernel
theorem dX3_blocks_27 : decode cX3_blocks 27 = .ok (.if_icmp .eq 61, 3) := by decide +kernel
theorem dX3_blocks_30 : decode cX3_blocks 30 = .ok (.aload_n 0, 1) := by decide +kernel
theorem dX3_blocks_31 : decode cX3_blocks 31 = .ok (.getfield 38, 3) := by decide +kernel
theorem dX3_blocks_34 : decode cX3_blocks 34 = .ok (.bipush 8, 2) := by decide +kernel
theorem dX3_blocks_36 : decode cX3_blocks 36 = .ok (.iload_n 2, 1) := by decide +kernel
theorem dX3_blocks_37 : decode cX3_blocks 37 = .ok (.imul, 1) := by decide +kernel
theorem dX3_blocks_38 : decode cX3_blocks 38 = .ok (.iload 5, 2) := by decide +kernel
theorem dX3_blocks_40 : decode cX3_blocks 40 = .ok (.iadd, 1) := by decide +kernel
theorem dX3_blocks_41 : decode cX3_blocks 41 = .ok (.baload, 1) := by decide +kernel
theorem dX3_blocks_42 : decode cX3_blocks 42 = .ok (.ifCond .eq 16, 3) := by decide +kernel
theorem dX3_blocks_45 : decode cX3_blocks 45 = .ok (.aload_n 0, 1) := by decide +kernel
theorem dX3_blocks_46 : decode cX3_blocks 46 = .ok (.iload 5, 2) := by decide +kernel
theorem dX3_blocks_48 : decode cX3_blocks 48 = .ok (.aload_n 1, 1) := by decide +kernel
theorem dX3_blocks_49 : decode cX3_blocks 49 = .ok (.iload 5, 2) := by decide +kernel
theorem dX3_blocks_51 : decode cX3_blocks 51 = .ok (.iaload, 1) := by decide +kernel
theorem dX3_blocks_52 : decode cX3_blocks 52 = .ok (.invokevirtual 100, 3) := by decide +kernel
theorem dX3_blocks_55 : decode cX3_blocks 55 = .ok (.goto 4, 3) := by decide +kernel
theorem dX3_blocks_58 : decode cX3_blocks 58 = .ok (.iconst (-1), 1) := by decide +kernel
theorem dX3_blocks_59 : decode cX3_blocks 59 = .ok (.istore 6, 2) := by decide +kernel
theorem dX3_blocks_61 : decode cX3_blocks 61 = .ok (.iload 6, 2) := by decide +kernel
theorem dX3_blocks_63 : decode cX3_blocks 63 = .ok (.iconst (-1), 1) := by decide +kernel
theorem dX3_blocks_64 : decode cX3_blocks 64 = .ok (.if_icmp .eq 14, 3) := by decide +kernel
theorem dX3_blocks_67 : decode cX3_blocks 67 = .ok (.iload 6, 2) := by decide +kernel
theorem dX3_blocks_69 : decode cX3_blocks 69 = .ok (.iload_n 3, 1) := by decide +kernel
theorem dX3_blocks_70 : decode cX3_blocks 70 = .ok (.if_icmp .gt 8, 3) := by decide +kernel
theorem dX3_blocks_73 : decode cX3_blocks 73 = .ok (.iload 5, 2) := by decide +kernel
theorem dX3_blocks_75 : decode cX3_blocks 75 = .ok (.goto 5, 3) := by decide +kernel
theorem dX3_blocks_78 : decode cX3_blocks 78 = .ok (.iload 4, 2) := by decide +kernel
theorem dX3_blocks_80 : decode cX3_blocks 80 = .ok (.istore 4, 2) := by decide +kernel
theorem dX3_blocks_82 : decode cX3_blocks 82 = .ok (.iinc 5 (-1), 3) := by decide +kernel
theorem dX3_blocks_85 : decode cX3_blocks 85 = .ok (.goto (-65), 3) := by decide +kernel
theorem dX3_blocks_88 : decode cX3_blocks 88 = .ok (.iload 4, 2) := by decide +kernel
theorem dX3_blocks_90 : decode cX3_blocks 90 = .ok (.ireturn, 1) := by decide +kernel
theorem dX3_finish_0 : decode cX3_finish 0 = .ok (.aload_n 0, 1) := by decide +kernel
theorem dX3_finish_1 : decode cX3_finish 1 = .ok (.aload_n 0, 1) := by decide +kernel
theorem dX3_finish_2 : decode cX3_finish 2 = .ok (.iload_n 1, 1) := by decide +kernel
theorem dX3_finish_3 : decode cX3_finish 3 = .ok (.invokevirtual 84, 3) := by decide +kernel
theorem dX3_finish_6 : decode cX3_finish 6 = .ok (.ifCond .eq 7, 3) := by decide +kernel
theorem dX3_finish_9 : decode cX3_finish 9 = .ok (.iconst 0, 1) := by decide +kernel
theorem dX3_finish_10 : decode cX3_finish 10 = .ok (.goto 4, 3) := by decide +kernel
theorem dX3_finish_13 : decode cX3_finish 13 = .ok (.iconst 1, 1) := by decide +kernel
theorem dX3_finish_14 : decode cX3_finish 14 = .ok (.putfield 56, 3) := by decide +kernel
theorem dX3_finish_17 : decode cX3_finish 17 = .ok (.aload_n 0, 1) := by decide +kernel
theorem dX3_finish_18 : decode cX3_finish 18 = .ok (.getfield 56, 3) := by decide +kernel
theorem dX3_finish_21 : decode cX3_finish 21 = .ok (.ifCond .le 5, 3) := by decide +kernel
theorem dX3_finish_24 : decode cX3_finish 24 = .ok (.iconst 0, 1) := by decide +kernel
theorem dX3_finish_25 : decode cX3_finish 25 = .ok (.ireturn, 1) := by decide +kernel
theorem dX3_finish_26 : decode cX3_finish 26 = .ok (.aload_n 0, 1) := by decide +kernel
theorem dX3_finish_27 : decode cX3_finish 27 = .ok (.invokevirtual 97, 3) := by decide +kernel
theorem dX3_finish_30 : decode cX3_finish 30 = .ok (.aload_n 0, 1) := by decide +kernel
theorem dX3_finish_31 : decode cX3_finish 31 = .ok (.iload_n 1, 1) := by decide +kernel
theorem dX3_finish_32 : decode cX3_finish 32 = .ok (.aload_n 0, 1) := by decide +kernel
theorem dX3_finish_33 : decode cX3_finish 33 = .ok (.getfield 32, 3) := by decide +kernel
theorem dX3_finish_36 : decode cX3_finish 36 = .ok (.iload_n 1, 1) := by decide +kernel
theorem dX3_finish_37 : decode cX3_finish 37 = .ok (.iaload, 1) := by decide +kernel
theorem dX3_finish_38 : decode cX3_finish 38 = .ok (.invokevirtual 100, 3) := by decide +kernel
theorem dX3_finish_41 : decode cX3_finish 41 = .ok (.istore_n 2, 1) := by decide +kernel
theorem dX3_finish_42 : decode cX3_finish 42 = .ok (.aload_n 0, 1) := by decide +kernel
theorem dX3_finish_43 : decode cX3_finish 43 = .ok (.iload_n 2, 1) := by decide +kernel
theorem dX3_finish_44 : decode cX3_finish 44 = .ok (.iconst (-1), 1) := by decide +kernel
theorem dX3_finish_45 : decode cX3_finish 45 = .ok (.if_icmp .ne 7, 3) := by decide +kernel
theorem dX3_finish_48 : decode cX3_finish 48 = .ok (.iconst 2, 1) := by decide +kernel
theorem dX3_finish_49 : decode cX3_finish 49 = .ok (.goto 21, 3) := by decide +kernel
theorem dX3_finish_52 : decode cX3_finish 52 = .ok (.aload_n 0, 1) := by decide +kernel
theorem dX3_finish_53 : decode cX3_finish 53 = .ok (.aload_n 0, 1) := by decide +kernel
theorem dX3_finish_54 : decode cX3_finish 54 = .ok (.getfield 32, 3) := by decide +kernel
theorem dX3_finish_57 : decode cX3_finish 57 = .ok (.iload_n 1, 1) := by decide +kernel
theorem dX3_finish_58 : decode cX3_finish 58 = .ok (.invokevirtual 109, 3) := by decide +kernel
theorem dX3_finish_61 : decode cX3_finish 61 = .ok (.iconst (-1), 1) := by decide +kernel
theorem dX3_finish_62 : decode cX3_finish 62 = .ok (.if_icmp .eq 7, 3) := by decide +kernel
theorem dX3_finish_65 : decode cX3_finish 65 = .ok (.iconst 3, 1) := by decide +kernel
theorem dX3_finish_66 : decode cX3_finish 66 = .ok (.goto 4, 3) := by decide +kernel
theorem dX3_finish_69 : decode cX3_finish 69 = .ok (.iconst 0, 1) := by decide +kernel
theorem dX3_finish_70 : decode cX3_finish 70 = .ok (.putfield 56, 3) := by decide +kernel
theorem dX3_finish_73 : decode cX3_finish 73 = .ok (.aload_n 0, 1) := by decide +kernel
theorem dX3_finish_74 : decode cX3_finish 74 = .ok (.getfield 56, 3) := by decide +kernel
theorem dX3_finish_77 : decode cX3_finish 77 = .ok (.ifCond .le 5, 3) := by decide +kernel
theorem dX3_finish_80 : decode cX3_finish 80 = .ok (.iconst 0, 1) := by decide +kernel
theorem dX3_finish_81 : decode cX3_finish 81 = .ok (.ireturn, 1) := by decide +kernel
theorem dX3_finish_82 : decode cX3_finish 82 = .ok (.aload_n 0, 1) := by decide +kernel
theorem dX3_finish_83 : decode cX3_finish 83 = .ok (.getfield 32, 3) := by decide +kernel
theorem dX3_finish_86 : decode cX3_finish 86 = .ok (.iload_n 1, 1) := by decide +kernel
theorem dX3_finish_87 : decode cX3_finish 87 = .ok (.dup2, 1) := by decide +kernel
theorem dX3_finish_88 : decode cX3_finish 88 = .ok (.iaload, 1) := by decide +kernel
theorem dX3_finish_89 : decode cX3_finish 89 = .ok (.iconst 1, 1) := by decide +kernel
theorem dX3_finish_90 : decode cX3_finish 90 = .ok (.iadd, 1) := by decide +kernel
theorem dX3_finish_91 : decode cX3_finish 91 = .ok (.iastore, 1) := by decide +kernel
theorem dX3_finish_92 : decode cX3_finish 92 = .ok (.aload_n 0, 1) := by decide +kernel
theorem dX3_finish_93 : decode cX3_finish 93 = .ok (.getfield 35, 3) := by decide +kernel
theorem dX3_finish_96 : decode cX3_finish 96 = .ok (.iload_n 1, 1) := by decide +kernel
theorem dX3_finish_97 : decode cX3_finish 97 = .ok (.aload_n 0, 1) := by decide +kernel
theorem dX3_finish_98 : decode cX3_finish 98 = .ok (.getfield 81, 3) := by decide +kernel
theorem dX3_finish_101 : decode cX3_finish 101 = .ok (.iastore, 1) := by decide +kernel
theorem dX3_finish_102 : decode cX3_finish 102 = .ok (.aload_n 0, 1) := by decide +kernel
theorem dX3_finish_103 : decode cX3_finish 103 = .ok (.getfield 81, 3) := by decide +kernel
theorem dX3_finish_106 : decode cX3_finish 106 = .ok (.iload_n 2, 1) := by decide +kernel
theorem dX3_finish_107 : decode cX3_finish 107 = .ok (.isub, 1) := by decide +kernel
theorem dX3_finish_108 : decode cX3_finish 108 = .ok (.ireturn, 1) := by decide +kernel
theorem dX3_open_0 : decode cX3_open 0 = .ok (.aload_n 0, 1) := by decide +kernel
theorem dX3_open_1 : decode cX3_open 1 = .ok (.aload_n 0, 1) := by decide +kernel
theorem dX3_open_2 : decode cX3_open 2 = .ok (.iload_n 1, 1) := by decide +kernel
theorem dX3_open_3 : decode cX3_open 3 = .ok (.invokevirtual 84, 3) := by decide +kernel
theorem dX3_open_6 : decode cX3_open 6 = .ok (.ifCond .eq 7, 3) := by decide +kernel
theorem dX3_open_9 : decode cX3_open 9 = .ok (.iconst 0, 1) := by decide +kernel
theorem dX3_open_10 : decode cX3_open 10 = .ok (.goto 4, 3) := by decide +kernel
theorem dX3_open_13 : decode cX3_open 13 = .ok (.iconst 1, 1) := by decide +kernel
theorem dX3_open_14 : decode cX3_open 14 = .ok (.putfield 56, 3) := by decide +kernel
theorem dX3_open_17 : decode cX3_open 17 = .ok (.aload_n 0, 1) := by decide +kernel
theorem dX3_open_18 : decode cX3_open 18 = .ok (.invokevirtual 97, 3) := by decide +kernel
theorem dX3_open_21 : decode cX3_open 21 = .ok (.aload_n 0, 1) := by decide +kernel
theorem dX3_open_22 : decode cX3_open 22 = .ok (.getfield 56, 3) := by decide +kernel
theorem dX3_open_25 : decode cX3_open 25 = .ok (.ifCond .le 7, 3) := by decide +kernel
theorem dX3_open_28 : decode cX3_open 28 = .ok (.iconst 0, 1) := by decide +kernel
theorem dX3_open_29 : decode cX3_open 29 = .ok (.goto 14, 3) := by decide +kernel
theorem dX3_open_32 : decode cX3_open 32 = .ok (.aload_n 0, 1) := by decide +kernel
theorem dX3_open_33 : decode cX3_open 33 = .ok (.iload_n 1, 1) := by decide +kernel
theorem dX3_open_34 : decode cX3_open 34 = .ok (.aload_n 0, 1) := by decide +kernel
theorem dX3_open_35 : decode cX3_open 35 = .ok (.getfield 32, 3) := by decide +kernel
theorem dX3_open_38 : decode cX3_open 38 = .ok (.iload_n 1, 1) := by decide +kernel
theorem dX3_open_39 : decode cX3_open 39 = .ok (.iaload, 1) := by decide +kernel
theorem dX3_open_40 : decode cX3_open 40 = .ok (.invokevirtual 100, 3) := by decide +kernel
theorem dX3_open_43 : decode cX3_open 43 = .ok (.ireturn, 1) := by decide +kernel
theorem dX3_finished_0 : decode cX3_finished 0 = .ok (.aload_n 0, 1) := by decide +kernel
theorem dX3_finished_1 : decode cX3_finished 1 = .ok (.iconst 0, 1) := by decide +kernel
theorem dX3_finished_2 : decode cX3_finished 2 = .ok (.putfield 56, 3) := by decide +kernel
theorem dX3_finished_5 : decode cX3_finished 5 = .ok (.aload_n 0, 1) := by decide +kernel
theorem dX3_finished_6 : decode cX3_finished 6 = .ok (.iload_n 1, 1) := by decide +kernel
theorem dX3_finished_7 : decode cX3_finished 7 = .ok (.invokevirtual 84, 3) := by decide +kernel
theorem dX3_finished_10 : decode cX3_finished 10 = .ok (.ifCond .eq 12, 3) := by decide +kernel
theorem dX3_finished_13 : decode cX3_finished 13 = .ok (.aload_n 0, 1) := by decide +kernel
theorem dX3_finished_14 : decode cX3_finished 14 = .ok (.getfield 32, 3) := by decide +kernel
theorem dX3_finished_17 : decode cX3_finished 17 = .ok (.iload_n 1, 1) := by decide +kernel
theorem dX3_finished_18 : decode cX3_finished 18 = .ok (.iaload, 1) := by decide +kernel
theorem dX3_finished_19 : decode cX3_finished 19 = .ok (.goto 8, 3) := by decide +kernel
theorem dX3_finished_22 : decode cX3_finished 22 = .ok (.aload_n 0, 1) := by decide +kernel
theorem dX3_finished_23 : decode cX3_finished 23 = .ok (.iconst 1, 1) := by decide +kernel
theorem dX3_finished_24 : decode cX3_finished 24 = .ok (.invokevirtual 113, 3) := by decide +kernel
theorem dX3_finished_27 : decode cX3_finished 27 = .ok (.ireturn, 1) := by decide +kernel
theorem dX3_blockedBy_0 : decode cX3_blockedBy 0 = .ok (.aload_n 0, 1) := by decide +kernel
theorem dX3_blockedBy_1 : decode cX3_blockedBy 1 = .ok (.aload_n 0, 1) := by decide +kernel
theorem dX3_blockedBy_2 : decode cX3_blockedBy 2 = .ok (.iload_n 1, 1) := by decide +kernel
theorem dX3_blockedBy_3 : decode cX3_blockedBy 3 = .ok (.invokevirtual 84, 3) := by decide +kernel
theorem dX3_blockedBy_6 : decode cX3_blockedBy 6 = .ok (.ifCond .eq 7, 3) := by decide +kernel
theorem dX3_blockedBy_9 : decode cX3_blockedBy 9 = .ok (.iconst 0, 1) := by decide +kernel
theorem dX3_blockedBy_10 : decode cX3_blockedBy 10 = .ok (.goto 4, 3) := by decide +kernel
theorem dX3_blockedBy_13 : decode cX3_blockedBy 13 = .ok (.iconst 1, 1) := by decide +kernel
theorem dX3_blockedBy_14 : decode cX3_blockedBy 14 = .ok (.putfield 56, 3) := by decide +kernel
theorem dX3_blockedBy_17 : decode cX3_blockedBy 17 = .ok (.aload_n 0, 1) := by decide +kernel
theorem dX3_blockedBy_18 : decode cX3_blockedBy 18 = .ok (.invokevirtual 97, 3) := by decide +kernel
theorem dX3_blockedBy_21 : decode cX3_blockedBy 21 = .ok (.aload_n 0, 1) := by decide +kernel
theorem dX3_blockedBy_22 : decode cX3_blockedBy 22 = .ok (.getfield 56, 3) := by decide +kernel
theorem dX3_blockedBy_25 : decode cX3_blockedBy 25 = .ok (.ifCond .le 7, 3) := by decide +kernel
theorem dX3_blockedBy_28 : decode cX3_blockedBy 28 = .ok (.iconst 0, 1) := by decide +kernel
theorem dX3_blockedBy_29 : decode cX3_blockedBy 29 = .ok (.goto 12, 3) := by decide +kernel
theorem dX3_blockedBy_32 : decode cX3_blockedBy 32 = .ok (.aload_n 0, 1) := by decide +kernel
theorem dX3_blockedBy_33 : decode cX3_blockedBy 33 = .ok (.aload_n 0, 1) := by decide +kernel
theorem dX3_blockedBy_34 : decode cX3_blockedBy 34 = .ok (.getfield 32, 3) := by decide +kernel
theorem dX3_blockedBy_37 : decode cX3_blockedBy 37 = .ok (.iload_n 1, 1) := by decide +kernel
theorem dX3_blockedBy_38 : decode cX3_blockedBy 38 = .ok (.invokevirtual 109, 3) := by decide +kernel
theorem dX3_blockedBy_41 : decode cX3_blockedBy 41 = .ok (.ireturn, 1) := by decide +kernel
theorem dX3_overdue_0 : decode cX3_overdue 0 = .ok (.aload_n 0, 1) := by decide +kernel
theorem dX3_overdue_1 : decode cX3_overdue 1 = .ok (.iconst 0, 1) := by decide +kernel
theorem dX3_overdue_2 : decode cX3_overdue 2 = .ok (.putfield 56, 3) := by decide +kernel
theorem dX3_overdue_5 : decode cX3_overdue 5 = .ok (.aload_n 0, 1) := by decide +kernel
theorem dX3_overdue_6 : decode cX3_overdue 6 = .ok (.invokevirtual 97, 3) := by decide +kernel
theorem dX3_overdue_9 : decode cX3_overdue 9 = .ok (.iconst 0, 1) := by decide +kernel
theorem dX3_overdue_10 : decode cX3_overdue 10 = .ok (.istore_n 1, 1) := by decide +kernel
theorem dX3_overdue_11 : decode cX3_overdue 11 = .ok (.iconst 0, 1) := by decide +kernel
theorem dX3_overdue_12 : decode cX3_overdue 12 = .ok (.istore_n 2, 1) := by decide +kernel
theorem dX3_overdue_13 : decode cX3_overdue 13 = .ok (.iload_n 2, 1) := by decide +kernel
theorem dX3_overdue_14 : decode cX3_overdue 14 = .ok (.aload_n 0, 1) := by decide +kernel
theorem dX3_overdue_15 : decode cX3_overdue 15 = .ok (.getfield 64, 3) := by decide +kernel
theorem dX3_overdue_18 : decode cX3_overdue 18 = .ok (.if_icmp .ge 38, 3) := by decide +kernel
theorem dX3_overdue_21 : decode cX3_overdue 21 = .ok (.aload_n 0, 1) := by decide +kernel
theorem dX3_overdue_22 : decode cX3_overdue 22 = .ok (.iload_n 2, 1) := by decide +kernel
theorem dX3_overdue_23 : decode cX3_overdue 23 = .ok (.aload_n 0, 1) := by decide +kernel
theorem dX3_overdue_24 : decode cX3_overdue 24 = .ok (.getfield 81, 3) := by decide +kernel
theorem dX3_overdue_27 : decode cX3_overdue 27 = .ok (.invokevirtual 103, 3) := by decide +kernel
theorem dX3_overdue_30 : decode cX3_overdue 30 = .ok (.aload_n 0, 1) := by decide +kernel
theorem dX3_overdue_31 : decode cX3_overdue 31 = .ok (.getfield 32, 3) := by decide +kernel
theorem dX3_overdue_34 : decode cX3_overdue 34 = .ok (.iload_n 2, 1) := by decide +kernel
theorem dX3_overdue_35 : decode cX3_overdue 35 = .ok (.iaload, 1) := by decide +kernel
theorem dX3_overdue_36 : decode cX3_overdue 36 = .ok (.isub, 1) := by decide +kernel
theorem dX3_overdue_37 : decode cX3_overdue 37 = .ok (.istore_n 3, 1) := by decide +kernel
theorem dX3_overdue_38 : decode cX3_overdue 38 = .ok (.iload_n 1, 1) := by decide +kernel
theorem dX3_overdue_39 : decode cX3_overdue 39 = .ok (.iload_n 3, 1) := by decide +kernel
theorem dX3_overdue_40 : decode cX3_overdue 40 = .ok (.ifCond .le 7, 3) := by decide +kernel
theorem dX3_overdue_43 : decode cX3_overdue 43 = .ok (.iload_n 3, 1) := by decide +kernel
theorem dX3_overdue_44 : decode cX3_overdue 44 = .ok (.goto 4, 3) := by decide +kernel
theorem dX3_overdue_47 : decode cX3_overdue 47 = .ok (.iconst 0, 1) := by decide +kernel
theorem dX3_overdue_48 : decode cX3_overdue 48 = .ok (.iadd, 1) := by decide +kernel
theorem dX3_overdue_49 : decode cX3_overdue 49 = .ok (.istore_n 1, 1) := by decide +kernel
theorem dX3_overdue_50 : decode cX3_overdue 50 = .ok (.iinc 2 1, 3) := by decide +kernel
theorem dX3_overdue_53 : decode cX3_overdue 53 = .ok (.goto (-40), 3) := by decide +kernel
theorem dX3_overdue_56 : decode cX3_overdue 56 = .ok (.iload_n 1, 1) := by decide +kernel
theorem dX3_overdue_57 : decode cX3_overdue 57 = .ok (.ireturn, 1) := by decide +kernel
theorem dX3_comesNext_0 : decode cX3_comesNext 0 = .ok (.iconst (-1), 1) := by decide +kernel
theorem dX3_comesNext_1 : decode cX3_comesNext 1 = .ok (.istore_n 2, 1) := by decide +kernel
theorem dX3_comesNext_2 : decode cX3_comesNext 2 = .ok (.iconst (-1), 1) := by decide +kernel
theorem dX3_comesNext_3 : decode cX3_comesNext 3 = .ok (.istore_n 3, 1) := by decide +kernel
theorem dX3_comesNext_4 : decode cX3_comesNext 4 = .ok (.iconst 0, 1) := by decide +kernel
theorem dX3_comesNext_5 : decode cX3_comesNext 5 = .ok (.istore 4, 2) := by decide +kernel
theorem dX3_comesNext_7 : decode cX3_comesNext 7 = .ok (.iload 4, 2) := by decide +kernel
theorem dX3_comesNext_9 : decode cX3_comesNext 9 = .ok (.aload_n 0, 1) := by decide +kernel
theorem dX3_comesNext_10 : decode cX3_comesNext 10 = .ok (.getfield 64, 3) := by decide +kernel
theorem dX3_comesNext_13 : decode cX3_comesNext 13 = .ok (.if_icmp .ge 92, 3) := by decide +kernel
theorem dX3_comesNext_16 : decode cX3_comesNext 16 = .ok (.aload_n 0, 1) := by decide +kernel
theorem dX3_comesNext_17 : decode cX3_comesNext 17 = .ok (.iload 4, 2) := by decide +kernel
theorem dX3_comesNext_19 : decode cX3_comesNext 19 = .ok (.aload_n 0, 1) := by decide +kernel
theorem dX3_comesNext_20 : decode cX3_comesNext 20 = .ok (.getfield 50, 3) := by decide +kernel
theorem dX3_comesNext_23 : decode cX3_comesNext 23 = .ok (.iload 4, 2) := by decide +kernel
theorem dX3_comesNext_25 : decode cX3_comesNext 25 = .ok (.iaload, 1) := by decide +kernel
theorem dX3_comesNext_26 : decode cX3_comesNext 26 = .ok (.invokevirtual 100, 3) := by decide +kernel
theorem dX3_comesNext_29 : decode cX3_comesNext 29 = .ok (.istore 5, 2) := by decide +kernel
theorem dX3_comesNext_31 : decode cX3_comesNext 31 = .ok (.iload 5, 2) := by decide +kernel
theorem dX3_comesNext_33 : decode cX3_comesNext 33 = .ok (.iconst (-1), 1) := by decide +kernel
theorem dX3_comesNext_34 : decode cX3_comesNext 34 = .ok (.if_icmp .eq 38, 3) := by decide +kernel
theorem dX3_comesNext_37 : decode cX3_comesNext 37 = .ok (.iload 5, 2) := by decide +kernel
theorem dX3_comesNext_39 : decode cX3_comesNext 39 = .ok (.iload_n 1, 1) := by decide +kernel
theorem dX3_comesNext_40 : decode cX3_comesNext 40 = .ok (.if_icmp .gt 32, 3) := by decide +kernel
theorem dX3_comesNext_43 : decode cX3_comesNext 43 = .ok (.aload_n 0, 1) := by decide +kernel
theorem dX3_comesNext_44 : decode cX3_comesNext 44 = .ok (.aload_n 0, 1) := by decide +kernel
theorem dX3_comesNext_45 : decode cX3_comesNext 45 = .ok (.getfield 50, 3) := by decide +kernel
theorem dX3_comesNext_48 : decode cX3_comesNext 48 = .ok (.iload 4, 2) := by decide +kernel
theorem dX3_comesNext_50 : decode cX3_comesNext 50 = .ok (.invokevirtual 109, 3) := by decide +kernel
theorem dX3_comesNext_53 : decode cX3_comesNext 53 = .ok (.iconst (-1), 1) := by decide +kernel
theorem dX3_comesNext_54 : decode cX3_comesNext 54 = .ok (.if_icmp .ne 18, 3) := by decide +kernel
theorem dX3_comesNext_57 : decode cX3_comesNext 57 = .ok (.iload_n 2, 1) := by decide +kernel
theorem dX3_comesNext_58 : decode cX3_comesNext 58 = .ok (.iconst (-1), 1) := by decide +kernel
theorem dX3_comesNext_59 : decode cX3_comesNext 59 = .ok (.if_icmp .eq 9, 3) := by decide +kernel
theorem dX3_comesNext_62 : decode cX3_comesNext 62 = .ok (.iload 5, 2) := by decide +kernel
theorem dX3_comesNext_64 : decode cX3_comesNext 64 = .ok (.iload_n 3, 1) := by decide +kernel
theorem dX3_comesNext_65 : decode cX3_comesNext 65 = .ok (.if_icmp .ge 7, 3) := by decide +kernel
theorem dX3_comesNext_68 : decode cX3_comesNext 68 = .ok (.iconst 1, 1) := by decide +kernel
theorem dX3_comesNext_69 : decode cX3_comesNext 69 = .ok (.goto 4, 3) := by decide +kernel
theorem dX3_comesNext_72 : decode cX3_comesNext 72 = .ok (.iconst 0, 1) := by decide +kernel
theorem dX3_comesNext_73 : decode cX3_comesNext 73 = .ok (.istore 6, 2) := by decide +kernel
theorem dX3_comesNext_75 : decode cX3_comesNext 75 = .ok (.iload 6, 2) := by decide +kernel
theorem dX3_comesNext_77 : decode cX3_comesNext 77 = .ok (.ifCond .eq 8, 3) := by decide +kernel
theorem dX3_comesNext_80 : decode cX3_comesNext 80 = .ok (.iload 4, 2) := by decide +kernel
theorem dX3_comesNext_82 : decode cX3_comesNext 82 = .ok (.goto 4, 3) := by decide +kernel
theorem dX3_comesNext_85 : decode cX3_comesNext 85 = .ok (.iload_n 2, 1) := by decide +kernel
theorem dX3_comesNext_86 : decode cX3_comesNext 86 = .ok (.istore_n 2, 1) := by decide +kernel
theorem dX3_comesNext_87 : decode cX3_comesNext 87 = .ok (.iload 6, 2) := by decide +kernel
theorem dX3_comesNext_89 : decode cX3_comesNext 89 = .ok (.ifCond .eq 8, 3) := by decide +kernel
theorem dX3_comesNext_92 : decode cX3_comesNext 92 = .ok (.iload 5, 2) := by decide +kernel
theorem dX3_comesNext_94 : decode cX3_comesNext 94 = .ok (.goto 4, 3) := by decide +kernel
theorem dX3_comesNext_97 : decode cX3_comesNext 97 = .ok (.iload_n 3, 1) := by decide +kernel
theorem dX3_comesNext_98 : decode cX3_comesNext 98 = .ok (.istore_n 3, 1) := by decide +kernel
theorem dX3_comesNext_99 : decode cX3_comesNext 99 = .ok (.iinc 4 1, 3) := by decide +kernel
theorem dX3_comesNext_102 : decode cX3_comesNext 102 = .ok (.goto (-95), 3) := by decide +kernel
theorem dX3_comesNext_105 : decode cX3_comesNext 105 = .ok (.iload_n 2, 1) := by decide +kernel
theorem dX3_comesNext_106 : decode cX3_comesNext 106 = .ok (.ireturn, 1) := by decide +kernel
theorem dX3_order_0 : decode cX3_order 0 = .ok (.aload_n 0, 1) := by decide +kernel
theorem dX3_order_1 : decode cX3_order 1 = .ok (.iload_n 1, 1) := by decide +kernel
theorem dX3_order_2 : decode cX3_order 2 = .ok (.invokestatic 67, 3) := by decide +kernel
theorem dX3_order_5 : decode cX3_order 5 = .ok (.ifCond .eq 11, 3) := by decide +kernel
theorem dX3_order_8 : decode cX3_order 8 = .ok (.iload_n 2, 1) := by decide +kernel
theorem dX3_order_9 : decode cX3_order 9 = .ok (.ifCond .lt 7, 3) := by decide +kernel
theorem dX3_order_12 : decode cX3_order 12 = .ok (.iconst 0, 1) := by decide +kernel
theorem dX3_order_13 : decode cX3_order 13 = .ok (.goto 4, 3) := by decide +kernel
theorem dX3_order_16 : decode cX3_order 16 = .ok (.iconst 1, 1) := by decide +kernel
theorem dX3_order_17 : decode cX3_order 17 = .ok (.putfield 56, 3) := by decide +kernel
theorem dX3_order_20 : decode cX3_order 20 = .ok (.aload_n 0, 1) := by decide +kernel
theorem dX3_order_21 : decode cX3_order 21 = .ok (.getfield 56, 3) := by decide +kernel
theorem dX3_order_24 : decode cX3_order 24 = .ok (.ifCond .le 5, 3) := by decide +kernel
theorem dX3_order_27 : decode cX3_order 27 = .ok (.iconst 0, 1) := by decide +kernel
theorem dX3_order_28 : decode cX3_order 28 = .ok (.ireturn, 1) := by decide +kernel
theorem dX3_order_29 : decode cX3_order 29 = .ok (.aload_n 0, 1) := by decide +kernel
theorem dX3_order_30 : decode cX3_order 30 = .ok (.invokevirtual 97, 3) := by decide +kernel
theorem dX3_order_33 : decode cX3_order 33 = .ok (.iconst 0, 1) := by decide +kernel
theorem dX3_order_34 : decode cX3_order 34 = .ok (.istore_n 3, 1) := by decide +kernel
theorem dX3_order_35 : decode cX3_order 35 = .ok (.iload_n 3, 1) := by decide +kernel
theorem dX3_order_36 : decode cX3_order 36 = .ok (.aload_n 0, 1) := by decide +kernel
theorem dX3_order_37 : decode cX3_order 37 = .ok (.getfield 64, 3) := by decide +kernel
theorem dX3_order_40 : decode cX3_order 40 = .ok (.if_icmp .ge 21, 3) := by decide +kernel
theorem dX3_order_43 : decode cX3_order 43 = .ok (.aload_n 0, 1) := by decide +kernel
theorem dX3_order_44 : decode cX3_order 44 = .ok (.getfield 50, 3) := by decide +kernel
theorem dX3_order_47 : decode cX3_order 47 = .ok (.iload_n 3, 1) := by decide +kernel
theorem dX3_order_48 : decode cX3_order 48 = .ok (.aload_n 0, 1) := by decide +kernel
theorem dX3_order_49 : decode cX3_order 49 = .ok (.getfield 32, 3) := by decide +kernel
theorem dX3_order_52 : decode cX3_order 52 = .ok (.iload_n 3, 1) := by decide +kernel
theorem dX3_order_53 : decode cX3_order 53 = .ok (.iaload, 1) := by decide +kernel
theorem dX3_order_54 : decode cX3_order 54 = .ok (.iastore, 1) := by decide +kernel
theorem dX3_order_55 : decode cX3_order 55 = .ok (.iinc 3 1, 3) := by decide +kernel
theorem dX3_order_58 : decode cX3_order 58 = .ok (.goto (-23), 3) := by decide +kernel
theorem dX3_order_61 : decode cX3_order 61 = .ok (.aload_n 0, 1) := by decide +kernel
theorem dX3_order_62 : decode cX3_order 62 = .ok (.iload_n 1, 1) := by decide +kernel
theorem dX3_order_63 : decode cX3_order 63 = .ok (.invokevirtual 117, 3) := by decide +kernel
theorem dX3_order_66 : decode cX3_order 66 = .ok (.istore_n 3, 1) := by decide +kernel
theorem dX3_order_67 : decode cX3_order 67 = .ok (.iconst 0, 1) := by decide +kernel
theorem dX3_order_68 : decode cX3_order 68 = .ok (.istore 4, 2) := by decide +kernel
theorem dX3_order_70 : decode cX3_order 70 = .ok (.iload 4, 2) := by decide +kernel
theorem dX3_order_72 : decode cX3_order 72 = .ok (.iload_n 2, 1) := by decide +kernel
theorem dX3_order_73 : decode cX3_order 73 = .ok (.if_icmp .ge 30, 3) := by decide +kernel
theorem dX3_order_76 : decode cX3_order 76 = .ok (.iload_n 3, 1) := by decide +kernel
theorem dX3_order_77 : decode cX3_order 77 = .ok (.iconst (-1), 1) := by decide +kernel
theorem dX3_order_78 : decode cX3_order 78 = .ok (.if_icmp .eq 25, 3) := by decide +kernel
theorem dX3_order_81 : decode cX3_order 81 = .ok (.aload_n 0, 1) := by decide +kernel
theorem dX3_order_82 : decode cX3_order 82 = .ok (.getfield 50, 3) := by decide +kernel
theorem dX3_order_85 : decode cX3_order 85 = .ok (.iload_n 3, 1) := by decide +kernel
theorem dX3_order_86 : decode cX3_order 86 = .ok (.dup2, 1) := by decide +kernel
theorem dX3_order_87 : decode cX3_order 87 = .ok (.iaload, 1) := by decide +kernel
theorem dX3_order_88 : decode cX3_order 88 = .ok (.iconst 1, 1) := by decide +kernel
theorem dX3_order_89 : decode cX3_order 89 = .ok (.iadd, 1) := by decide +kernel
theorem dX3_order_90 : decode cX3_order 90 = .ok (.iastore, 1) := by decide +kernel
theorem dX3_order_91 : decode cX3_order 91 = .ok (.aload_n 0, 1) := by decide +kernel
theorem dX3_order_92 : decode cX3_order 92 = .ok (.iload_n 1, 1) := by decide +kernel
theorem dX3_order_93 : decode cX3_order 93 = .ok (.invokevirtual 117, 3) := by decide +kernel
theorem dX3_order_96 : decode cX3_order 96 = .ok (.istore_n 3, 1) := by decide +kernel
theorem dX3_order_97 : decode cX3_order 97 = .ok (.iinc 4 1, 3) := by decide +kernel
theorem dX3_order_100 : decode cX3_order 100 = .ok (.goto (-30), 3) := by decide +kernel
theorem dX3_order_103 : decode cX3_order 103 = .ok (.iload_n 3, 1) := by decide +kernel
theorem dX3_order_104 : decode cX3_order 104 = .ok (.ireturn, 1) := by decide +kernel
theorem dX3_isCovered_0 : decode cX3_isCovered 0 = .ok (.aload_n 0, 1) := by decide +kernel
theorem dX3_isCovered_1 : decode cX3_isCovered 1 = .ok (.aload_n 0, 1) := by decide +kernel
theorem dX3_isCovered_2 : decode cX3_isCovered 2 = .ok (.iload_n 1, 1) := by decide +kernel
theorem dX3_isCovered_3 : decode cX3_isCovered 3 = .ok (.invokevirtual 84, 3) := by decide +kernel
theorem dX3_isCovered_6 : decode cX3_isCovered 6 = .ok (.ifCond .eq 14, 3) := by decide +kernel
theorem dX3_isCovered_9 : decode cX3_isCovered 9 = .ok (.iload_n 2, 1) := by decide +kernel
theorem dX3_isCovered_10 : decode cX3_isCovered 10 = .ok (.invokestatic 67, 3) := by decide +kernel
theorem dX3_isCovered_13 : decode cX3_isCovered 13 = .ok (.ifCond .eq 7, 3) := by decide +kernel
theorem dX3_isCovered_16 : decode cX3_isCovered 16 = .ok (.iconst 0, 1) := by decide +kernel
theorem dX3_isCovered_17 : decode cX3_isCovered 17 = .ok (.goto 4, 3) := by decide +kernel
theorem dX3_isCovered_20 : decode cX3_isCovered 20 = .ok (.iconst 1, 1) := by decide +kernel
theorem dX3_isCovered_21 : decode cX3_isCovered 21 = .ok (.putfield 56, 3) := by decide +kernel
theorem dX3_isCovered_24 : decode cX3_isCovered 24 = .ok (.aload_n 0, 1) := by decide +kernel
theorem dX3_isCovered_25 : decode cX3_isCovered 25 = .ok (.getfield 56, 3) := by decide +kernel
theorem dX3_isCovered_28 : decode cX3_isCovered 28 = .ok (.ifCond .ne 43, 3) := by decide +kernel
theorem dX3_isCovered_31 : decode cX3_isCovered 31 = .ok (.aload_n 0, 1) := by decide +kernel
theorem dX3_isCovered_32 : decode cX3_isCovered 32 = .ok (.getfield 35, 3) := by decide +kernel
theorem dX3_isCovered_35 : decode cX3_isCovered 35 = .ok (.iload_n 1, 1) := by decide +kernel
theorem dX3_isCovered_36 : decode cX3_isCovered 36 = .ok (.iaload, 1) := by decide +kernel
theorem dX3_isCovered_37 : decode cX3_isCovered 37 = .ok (.iconst (-1), 1) := by decide +kernel
theorem dX3_isCovered_38 : decode cX3_isCovered 38 = .ok (.if_icmp .eq 33, 3) := by decide +kernel
theorem dX3_isCovered_41 : decode cX3_isCovered 41 = .ok (.iload_n 2, 1) := by decide +kernel
theorem dX3_isCovered_42 : decode cX3_isCovered 42 = .ok (.aload_n 0, 1) := by decide +kernel
theorem dX3_isCovered_43 : decode cX3_isCovered 43 = .ok (.getfield 35, 3) := by decide +kernel
theorem dX3_isCovered_46 : decode cX3_isCovered 46 = .ok (.iload_n 1, 1) := by decide +kernel
theorem dX3_isCovered_47 : decode cX3_isCovered 47 = .ok (.iaload, 1) := by decide +kernel
theorem dX3_isCovered_48 : decode cX3_isCovered 48 = .ok (.aload_n 0, 1) := by decide +kernel
theorem dX3_isCovered_49 : decode cX3_isCovered 49 = .ok (.getfield 35, 3) := by decide +kernel
theorem dX3_isCovered_52 : decode cX3_isCovered 52 = .ok (.iload_n 1, 1) := by decide +kernel
theorem dX3_isCovered_53 : decode cX3_isCovered 53 = .ok (.iaload, 1) := by decide +kernel
theorem dX3_isCovered_54 : decode cX3_isCovered 54 = .ok (.aload_n 0, 1) := by decide +kernel
theorem dX3_isCovered_55 : decode cX3_isCovered 55 = .ok (.getfield 29, 3) := by decide +kernel
theorem dX3_isCovered_58 : decode cX3_isCovered 58 = .ok (.iload_n 1, 1) := by decide +kernel
theorem dX3_isCovered_59 : decode cX3_isCovered 59 = .ok (.iaload, 1) := by decide +kernel
theorem dX3_isCovered_60 : decode cX3_isCovered 60 = .ok (.iadd, 1) := by decide +kernel
theorem dX3_isCovered_61 : decode cX3_isCovered 61 = .ok (.invokestatic 60, 3) := by decide +kernel
theorem dX3_isCovered_64 : decode cX3_isCovered 64 = .ok (.ifCond .eq 7, 3) := by decide +kernel
theorem dX3_isCovered_67 : decode cX3_isCovered 67 = .ok (.iconst 1, 1) := by decide +kernel
theorem dX3_isCovered_68 : decode cX3_isCovered 68 = .ok (.goto 4, 3) := by decide +kernel
theorem dX3_isCovered_71 : decode cX3_isCovered 71 = .ok (.iconst 0, 1) := by decide +kernel
theorem dX3_isCovered_72 : decode cX3_isCovered 72 = .ok (.ireturn, 1) := by decide +kernel
theorem dX3_lasts_0 : decode cX3_lasts 0 = .ok (.aload_n 0, 1) := by decide +kernel
theorem dX3_lasts_1 : decode cX3_lasts 1 = .ok (.aload_n 0, 1) := by decide +kernel
theorem dX3_lasts_2 : decode cX3_lasts 2 = .ok (.iload_n 1, 1) := by decide +kernel
theorem dX3_lasts_3 : decode cX3_lasts 3 = .ok (.invokevirtual 84, 3) := by decide +kernel
theorem dX3_lasts_6 : decode cX3_lasts 6 = .ok (.ifCond .ne 7, 3) := by decide +kernel
theorem dX3_lasts_9 : decode cX3_lasts 9 = .ok (.iconst 1, 1) := by decide +kernel
theorem dX3_lasts_10 : decode cX3_lasts 10 = .ok (.goto 18, 3) := by decide +kernel
theorem dX3_lasts_13 : decode cX3_lasts 13 = .ok (.aload_n 0, 1) := by decide +kernel
theorem dX3_lasts_14 : decode cX3_lasts 14 = .ok (.getfield 35, 3) := by decide +kernel
theorem dX3_lasts_17 : decode cX3_lasts 17 = .ok (.iload_n 1, 1) := by decide +kernel
theorem dX3_lasts_18 : decode cX3_lasts 18 = .ok (.iaload, 1) := by decide +kernel
theorem dX3_lasts_19 : decode cX3_lasts 19 = .ok (.iconst (-1), 1) := by decide +kernel
theorem dX3_lasts_20 : decode cX3_lasts 20 = .ok (.if_icmp .ne 7, 3) := by decide +kernel
theorem dX3_lasts_23 : decode cX3_lasts 23 = .ok (.iconst 2, 1) := by decide +kernel
theorem dX3_lasts_24 : decode cX3_lasts 24 = .ok (.goto 4, 3) := by decide +kernel
theorem dX3_lasts_27 : decode cX3_lasts 27 = .ok (.iconst 0, 1) := by decide +kernel
theorem dX3_lasts_28 : decode cX3_lasts 28 = .ok (.putfield 56, 3) := by decide +kernel
theorem dX3_lasts_31 : decode cX3_lasts 31 = .ok (.aload_n 0, 1) := by decide +kernel
theorem dX3_lasts_32 : decode cX3_lasts 32 = .ok (.getfield 56, 3) := by decide +kernel
theorem dX3_lasts_35 : decode cX3_lasts 35 = .ok (.ifCond .le 7, 3) := by decide +kernel
theorem dX3_lasts_38 : decode cX3_lasts 38 = .ok (.iconst 0, 1) := by decide +kernel
theorem dX3_lasts_39 : decode cX3_lasts 39 = .ok (.goto 21, 3) := by decide +kernel
theorem dX3_lasts_42 : decode cX3_lasts 42 = .ok (.aload_n 0, 1) := by decide +kernel
theorem dX3_lasts_43 : decode cX3_lasts 43 = .ok (.getfield 35, 3) := by decide +kernel
theorem dX3_lasts_46 : decode cX3_lasts 46 = .ok (.iload_n 1, 1) := by decide +kernel
theorem dX3_lasts_47 : decode cX3_lasts 47 = .ok (.iaload, 1) := by decide +kernel
theorem dX3_lasts_48 : decode cX3_lasts 48 = .ok (.aload_n 0, 1) := by decide +kernel
theorem dX3_lasts_49 : decode cX3_lasts 49 = .ok (.getfield 29, 3) := by decide +kernel
theorem dX3_lasts_52 : decode cX3_lasts 52 = .ok (.iload_n 1, 1) := by decide +kernel
theorem dX3_lasts_53 : decode cX3_lasts 53 = .ok (.iaload, 1) := by decide +kernel
theorem dX3_lasts_54 : decode cX3_lasts 54 = .ok (.iadd, 1) := by decide +kernel
theorem dX3_lasts_55 : decode cX3_lasts 55 = .ok (.aload_n 0, 1) := by decide +kernel
theorem dX3_lasts_56 : decode cX3_lasts 56 = .ok (.getfield 81, 3) := by decide +kernel
theorem dX3_lasts_59 : decode cX3_lasts 59 = .ok (.isub, 1) := by decide +kernel
theorem dX3_lasts_60 : decode cX3_lasts 60 = .ok (.ireturn, 1) := by decide +kernel
theorem dX3_loadOf_0 : decode cX3_loadOf 0 = .ok (.iconst 0, 1) := by decide +kernel
theorem dX3_loadOf_1 : decode cX3_loadOf 1 = .ok (.istore_n 2, 1) := by decide +kernel
theorem dX3_loadOf_2 : decode cX3_loadOf 2 = .ok (.iconst 0, 1) := by decide +kernel
theorem dX3_loadOf_3 : decode cX3_loadOf 3 = .ok (.istore_n 3, 1) := by decide +kernel
theorem dX3_loadOf_4 : decode cX3_loadOf 4 = .ok (.iload_n 3, 1) := by decide +kernel
theorem dX3_loadOf_5 : decode cX3_loadOf 5 = .ok (.aload_n 0, 1) := by decide +kernel
theorem dX3_loadOf_6 : decode cX3_loadOf 6 = .ok (.getfield 64, 3) := by decide +kernel
theorem dX3_loadOf_9 : decode cX3_loadOf 9 = .ok (.if_icmp .ge 37, 3) := by decide +kernel
theorem dX3_loadOf_12 : decode cX3_loadOf 12 = .ok (.iload_n 2, 1) := by decide +kernel
theorem dX3_loadOf_13 : decode cX3_loadOf 13 = .ok (.aload_n 0, 1) := by decide +kernel
theorem dX3_loadOf_14 : decode cX3_loadOf 14 = .ok (.getfield 41, 3) := by decide +kernel
theorem dX3_loadOf_17 : decode cX3_loadOf 17 = .ok (.sipush 720, 3) := by decide +kernel
theorem dX3_loadOf_20 : decode cX3_loadOf 20 = .ok (.iload_n 3, 1) := by decide +kernel
theorem dX3_loadOf_21 : decode cX3_loadOf 21 = .ok (.imul, 1) := by decide +kernel
theorem dX3_loadOf_22 : decode cX3_loadOf 22 = .ok (.iload_n 1, 1) := by decide +kernel
theorem dX3_loadOf_23 : decode cX3_loadOf 23 = .ok (.iadd, 1) := by decide +kernel
theorem dX3_loadOf_24 : decode cX3_loadOf 24 = .ok (.baload, 1) := by decide +kernel
theorem dX3_loadOf_25 : decode cX3_loadOf 25 = .ok (.ifCond .eq 12, 3) := by decide +kernel
theorem dX3_loadOf_28 : decode cX3_loadOf 28 = .ok (.aload_n 0, 1) := by decide +kernel
theorem dX3_loadOf_29 : decode cX3_loadOf 29 = .ok (.getfield 26, 3) := by decide +kernel
theorem dX3_loadOf_32 : decode cX3_loadOf 32 = .ok (.iload_n 3, 1) := by decide +kernel
theorem dX3_loadOf_33 : decode cX3_loadOf 33 = .ok (.iaload, 1) := by decide +kernel
theorem dX3_loadOf_34 : decode cX3_loadOf 34 = .ok (.goto 4, 3) := by decide +kernel
theorem dX3_loadOf_37 : decode cX3_loadOf 37 = .ok (.iconst 0, 1) := by decide +kernel
theorem dX3_loadOf_38 : decode cX3_loadOf 38 = .ok (.iadd, 1) := by decide +kernel
theorem dX3_loadOf_39 : decode cX3_loadOf 39 = .ok (.istore_n 2, 1) := by decide +kernel
theorem dX3_loadOf_40 : decode cX3_loadOf 40 = .ok (.iinc 3 1, 3) := by decide +kernel
theorem dX3_loadOf_43 : decode cX3_loadOf 43 = .ok (.goto (-39), 3) := by decide +kernel
theorem dX3_loadOf_46 : decode cX3_loadOf 46 = .ok (.iload_n 2, 1) := by decide +kernel
theorem dX3_loadOf_47 : decode cX3_loadOf 47 = .ok (.ireturn, 1) := by decide +kernel
theorem dX3_load_0 : decode cX3_load 0 = .ok (.aload_n 0, 1) := by decide +kernel
theorem dX3_load_1 : decode cX3_load 1 = .ok (.iload_n 1, 1) := by decide +kernel
theorem dX3_load_2 : decode cX3_load 2 = .ok (.invokestatic 67, 3) := by decide +kernel
theorem dX3_load_5 : decode cX3_load 5 = .ok (.ifCond .eq 7, 3) := by decide +kernel
theorem dX3_load_8 : decode cX3_load 8 = .ok (.iconst 0, 1) := by decide +kernel
theorem dX3_load_9 : decode cX3_load 9 = .ok (.goto 4, 3) := by decide +kernel
theorem dX3_load_12 : decode cX3_load 12 = .ok (.iconst 1, 1) := by decide +kernel
theorem dX3_load_13 : decode cX3_load 13 = .ok (.putfield 56, 3) := by decide +kernel
theorem dX3_load_16 : decode cX3_load 16 = .ok (.aload_n 0, 1) := by decide +kernel
theorem dX3_load_17 : decode cX3_load 17 = .ok (.invokevirtual 97, 3) := by decide +kernel
theorem dX3_load_20 : decode cX3_load 20 = .ok (.aload_n 0, 1) := by decide +kernel
theorem dX3_load_21 : decode cX3_load 21 = .ok (.getfield 56, 3) := by decide +kernel
theorem dX3_load_24 : decode cX3_load 24 = .ok (.ifCond .le 7, 3) := by decide +kernel
theorem dX3_load_27 : decode cX3_load 27 = .ok (.iconst 0, 1) := by decide +kernel
theorem dX3_load_28 : decode cX3_load 28 = .ok (.goto 8, 3) := by decide +kernel
theorem dX3_load_31 : decode cX3_load 31 = .ok (.aload_n 0, 1) := by decide +kernel
theorem dX3_load_32 : decode cX3_load 32 = .ok (.iload_n 1, 1) := by decide +kernel
theorem dX3_load_33 : decode cX3_load 33 = .ok (.invokevirtual 120, 3) := by decide +kernel
theorem dX3_load_36 : decode cX3_load 36 = .ok (.ireturn, 1) := by decide +kernel
theorem dX3_heaviest_0 : decode cX3_heaviest 0 = .ok (.aload_n 0, 1) := by decide +kernel
theorem dX3_heaviest_1 : decode cX3_heaviest 1 = .ok (.iload_n 1, 1) := by decide +kernel
theorem dX3_heaviest_2 : decode cX3_heaviest 2 = .ok (.iload_n 2, 1) := by decide +kernel
theorem dX3_heaviest_3 : decode cX3_heaviest 3 = .ok (.invokestatic 74, 3) := by decide +kernel
theorem dX3_heaviest_6 : decode cX3_heaviest 6 = .ok (.putfield 56, 3) := by decide +kernel
theorem dX3_heaviest_9 : decode cX3_heaviest 9 = .ok (.aload_n 0, 1) := by decide +kernel
theorem dX3_heaviest_10 : decode cX3_heaviest 10 = .ok (.invokevirtual 97, 3) := by decide +kernel
theorem dX3_heaviest_13 : decode cX3_heaviest 13 = .ok (.iload_n 1, 1) := by decide +kernel
theorem dX3_heaviest_14 : decode cX3_heaviest 14 = .ok (.istore_n 3, 1) := by decide +kernel
theorem dX3_heaviest_15 : decode cX3_heaviest 15 = .ok (.iload_n 1, 1) := by decide +kernel
theorem dX3_heaviest_16 : decode cX3_heaviest 16 = .ok (.istore 4, 2) := by decide +kernel
theorem dX3_heaviest_18 : decode cX3_heaviest 18 = .ok (.iload 4, 2) := by decide +kernel
theorem dX3_heaviest_20 : decode cX3_heaviest 20 = .ok (.iload_n 2, 1) := by decide +kernel
theorem dX3_heaviest_21 : decode cX3_heaviest 21 = .ok (.if_icmp .gt 37, 3) := by decide +kernel
theorem dX3_heaviest_24 : decode cX3_heaviest 24 = .ok (.aload_n 0, 1) := by decide +kernel
theorem dX3_heaviest_25 : decode cX3_heaviest 25 = .ok (.getfield 56, 3) := by decide +kernel
theorem dX3_heaviest_28 : decode cX3_heaviest 28 = .ok (.ifCond .ne 30, 3) := by decide +kernel
theorem dX3_heaviest_31 : decode cX3_heaviest 31 = .ok (.aload_n 0, 1) := by decide +kernel
theorem dX3_heaviest_32 : decode cX3_heaviest 32 = .ok (.iload 4, 2) := by decide +kernel
theorem dX3_heaviest_34 : decode cX3_heaviest 34 = .ok (.invokevirtual 120, 3) := by decide +kernel
theorem dX3_heaviest_37 : decode cX3_heaviest 37 = .ok (.aload_n 0, 1) := by decide +kernel
theorem dX3_heaviest_38 : decode cX3_heaviest 38 = .ok (.iload_n 3, 1) := by decide +kernel
theorem dX3_heaviest_39 : decode cX3_heaviest 39 = .ok (.invokevirtual 120, 3) := by decide +kernel
theorem dX3_heaviest_42 : decode cX3_heaviest 42 = .ok (.if_icmp .le 8, 3) := by decide +kernel
theorem dX3_heaviest_45 : decode cX3_heaviest 45 = .ok (.iload 4, 2) := by decide +kernel
theorem dX3_heaviest_47 : decode cX3_heaviest 47 = .ok (.goto 4, 3) := by decide +kernel
theorem dX3_heaviest_50 : decode cX3_heaviest 50 = .ok (.iload_n 3, 1) := by decide +kernel
theorem dX3_heaviest_51 : decode cX3_heaviest 51 = .ok (.istore_n 3, 1) := by decide +kernel
theorem dX3_heaviest_52 : decode cX3_heaviest 52 = .ok (.iinc 4 1, 3) := by decide +kernel
theorem dX3_heaviest_55 : decode cX3_heaviest 55 = .ok (.goto (-37), 3) := by decide +kernel
theorem dX3_heaviest_58 : decode cX3_heaviest 58 = .ok (.aload_n 0, 1) := by decide +kernel
theorem dX3_heaviest_59 : decode cX3_heaviest 59 = .ok (.getfield 56, 3) := by decide +kernel
theorem dX3_heaviest_62 : decode cX3_heaviest 62 = .ok (.ifCond .le 7, 3) := by decide +kernel
theorem dX3_heaviest_65 : decode cX3_heaviest 65 = .ok (.iconst 0, 1) := by decide +kernel
theorem dX3_heaviest_66 : decode cX3_heaviest 66 = .ok (.goto 4, 3) := by decide +kernel
theorem dX3_heaviest_69 : decode cX3_heaviest 69 = .ok (.iload_n 3, 1) := by decide +kernel
theorem dX3_heaviest_70 : decode cX3_heaviest 70 = .ok (.ireturn, 1) := by decide +kernel
theorem dX3_lays_0 : decode cX3_lays 0 = .ok (.iload_n 2, 1) := by decide +kernel
theorem dX3_lays_1 : decode cX3_lays 1 = .ok (.istore 5, 2) := by decide +kernel
theorem dX3_lays_3 : decode cX3_lays 3 = .ok (.iload 5, 2) := by decide +kernel
theorem dX3_lays_5 : decode cX3_lays 5 = .ok (.iload_n 1, 1) := by decide +kernel
theorem dX3_lays_6 : decode cX3_lays 6 = .ok (.if_icmp .lt 32, 3) := by decide +kernel
theorem dX3_lays_9 : decode cX3_lays 9 = .ok (.aload_n 0, 1) := by decide +kernel
theorem dX3_lays_10 : decode cX3_lays 10 = .ok (.iload 5, 2) := by decide +kernel
theorem dX3_lays_12 : decode cX3_lays 12 = .ok (.invokevirtual 71, 3) := by decide +kernel
theorem dX3_lays_15 : decode cX3_lays 15 = .ok (.ifCond .eq 17, 3) := by decide +kernel
theorem dX3_lays_18 : decode cX3_lays 18 = .ok (.aload_n 0, 1) := by decide +kernel
theorem dX3_lays_19 : decode cX3_lays 19 = .ok (.getfield 53, 3) := by decide +kernel
theorem dX3_lays_22 : decode cX3_lays 22 = .ok (.iload 5, 2) := by decide +kernel
theorem dX3_lays_24 : decode cX3_lays 24 = .ok (.iaload, 1) := by decide +kernel
theorem dX3_lays_25 : decode cX3_lays 25 = .ok (.iload_n 3, 1) := by decide +kernel
theorem dX3_lays_26 : decode cX3_lays 26 = .ok (.iadd, 1) := by decide +kernel
theorem dX3_lays_27 : decode cX3_lays 27 = .ok (.iload 4, 2) := by decide +kernel
theorem dX3_lays_29 : decode cX3_lays 29 = .ok (.if_icmp .le 9, 3) := by decide +kernel
theorem dX3_lays_32 : decode cX3_lays 32 = .ok (.iinc 5 (-1), 3) := by decide +kernel
theorem dX3_lays_35 : decode cX3_lays 35 = .ok (.goto (-32), 3) := by decide +kernel
theorem dX3_lays_38 : decode cX3_lays 38 = .ok (.iload 5, 2) := by decide +kernel
theorem dX3_lays_40 : decode cX3_lays 40 = .ok (.iload_n 1, 1) := by decide +kernel
theorem dX3_lays_41 : decode cX3_lays 41 = .ok (.if_icmp .lt 17, 3) := by decide +kernel
theorem dX3_lays_44 : decode cX3_lays 44 = .ok (.aload_n 0, 1) := by decide +kernel
theorem dX3_lays_45 : decode cX3_lays 45 = .ok (.getfield 53, 3) := by decide +kernel
theorem dX3_lays_48 : decode cX3_lays 48 = .ok (.iload 5, 2) := by decide +kernel
theorem dX3_lays_50 : decode cX3_lays 50 = .ok (.dup2, 1) := by decide +kernel
theorem dX3_lays_51 : decode cX3_lays 51 = .ok (.iaload, 1) := by decide +kernel
theorem dX3_lays_52 : decode cX3_lays 52 = .ok (.iload_n 3, 1) := by decide +kernel
theorem dX3_lays_53 : decode cX3_lays 53 = .ok (.iadd, 1) := by decide +kernel
theorem dX3_lays_54 : decode cX3_lays 54 = .ok (.iastore, 1) := by decide +kernel
theorem dX3_lays_55 : decode cX3_lays 55 = .ok (.goto 13, 3) := by decide +kernel
theorem dX3_lays_58 : decode cX3_lays 58 = .ok (.aload_n 0, 1) := by decide +kernel
theorem dX3_lays_59 : decode cX3_lays 59 = .ok (.dup, 1) := by decide +kernel
theorem dX3_lays_60 : decode cX3_lays 60 = .ok (.getfield 123, 3) := by decide +kernel
theorem dX3_lays_63 : decode cX3_lays 63 = .ok (.iload_n 3, 1) := by decide +kernel
theorem dX3_lays_64 : decode cX3_lays 64 = .ok (.iadd, 1) := by decide +kernel
theorem dX3_lays_65 : decode cX3_lays 65 = .ok (.putfield 123, 3) := by decide +kernel
theorem dX3_lays_68 : decode cX3_lays 68 = .ok (.return_, 1) := by decide +kernel
theorem dX3_levels_0 : decode cX3_levels 0 = .ok (.aload_n 0, 1) := by decide +kernel
theorem dX3_levels_1 : decode cX3_levels 1 = .ok (.invokevirtual 97, 3) := by decide +kernel
theorem dX3_levels_4 : decode cX3_levels 4 = .ok (.aload_n 0, 1) := by decide +kernel
theorem dX3_levels_5 : decode cX3_levels 5 = .ok (.iconst 0, 1) := by decide +kernel
theorem dX3_levels_6 : decode cX3_levels 6 = .ok (.putfield 123, 3) := by decide +kernel
theorem dX3_levels_9 : decode cX3_levels 9 = .ok (.iconst 0, 1) := by decide +kernel
theorem dX3_levels_10 : decode cX3_levels 10 = .ok (.istore 4, 2) := by decide +kernel
theorem dX3_levels_12 : decode cX3_levels 12 = .ok (.iload 4, 2) := by decide +kernel
theorem dX3_levels_14 : decode cX3_levels 14 = .ok (.sipush 720, 3) := by decide +kernel
theorem dX3_levels_17 : decode cX3_levels 17 = .ok (.if_icmp .ge 17, 3) := by decide +kernel
theorem dX3_levels_20 : decode cX3_levels 20 = .ok (.aload_n 0, 1) := by decide +kernel
theorem dX3_levels_21 : decode cX3_levels 21 = .ok (.getfield 53, 3) := by decide +kernel
theorem dX3_levels_24 : decode cX3_levels 24 = .ok (.iload 4, 2) := by decide +kernel
theorem dX3_levels_26 : decode cX3_levels 26 = .ok (.iconst 0, 1) := by decide +kernel
theorem dX3_levels_27 : decode cX3_levels 27 = .ok (.iastore, 1) := by decide +kernel
theorem dX3_levels_28 : decode cX3_levels 28 = .ok (.iinc 4 1, 3) := by decide +kernel
theorem dX3_levels_31 : decode cX3_levels 31 = .ok (.goto (-19), 3) := by decide +kernel
theorem dX3_levels_34 : decode cX3_levels 34 = .ok (.iload_n 1, 1) := by decide +kernel
theorem dX3_levels_35 : decode cX3_levels 35 = .ok (.istore 4, 2) := by decide +kernel
theorem dX3_levels_37 : decode cX3_levels 37 = .ok (.iload 4, 2) := by decide +kernel
theorem dX3_levels_39 : decode cX3_levels 39 = .ok (.iload_n 2, 1) := by decide +kernel
theorem dX3_levels_40 : decode cX3_levels 40 = .ok (.if_icmp .gt 59, 3) := by decide +kernel
theorem dX3_levels_43 : decode cX3_levels 43 = .ok (.iconst 0, 1) := by decide +kernel
theorem dX3_levels_44 : decode cX3_levels 44 = .ok (.istore 5, 2) := by decide +kernel
theorem dX3_levels_46 : decode cX3_levels 46 = .ok (.iload 5, 2) := by decide +kernel
theorem dX3_levels_48 : decode cX3_levels 48 = .ok (.aload_n 0, 1) := by decide +kernel
theorem dX3_levels_49 : decode cX3_levels 49 = .ok (.getfield 64, 3) := by decide +kernel
theorem dX3_levels_52 : decode cX3_levels 52 = .ok (.if_icmp .ge 41, 3) := by decide +kernel
theorem dX3_levels_55 : decode cX3_levels 55 = .ok (.aload_n 0, 1) := by decide +kernel
theorem dX3_levels_56 : decode cX3_levels 56 = .ok (.getfield 41, 3) := by decide +kernel
theorem dX3_levels_59 : decode cX3_levels 59 = .ok (.sipush 720, 3) := by decide +kernel
theorem dX3_levels_62 : decode cX3_levels 62 = .ok (.iload 5, 2) := by decide +kernel
theorem dX3_levels_64 : decode cX3_levels 64 = .ok (.imul, 1) := by decide +kernel
theorem dX3_levels_65 : decode cX3_levels 65 = .ok (.iload 4, 2) := by decide +kernel
theorem dX3_levels_67 : decode cX3_levels 67 = .ok (.iadd, 1) := by decide +kernel
theorem dX3_levels_68 : decode cX3_levels 68 = .ok (.baload, 1) := by decide +kernel
theorem dX3_levels_69 : decode cX3_levels 69 = .ok (.ifCond .eq 18, 3) := by decide +kernel
theorem dX3_levels_72 : decode cX3_levels 72 = .ok (.aload_n 0, 1) := by decide +kernel
theorem dX3_levels_73 : decode cX3_levels 73 = .ok (.iload_n 1, 1) := by decide +kernel
theorem dX3_levels_74 : decode cX3_levels 74 = .ok (.iload 4, 2) := by decide +kernel
theorem dX3_levels_76 : decode cX3_levels 76 = .ok (.aload_n 0, 1) := by decide +kernel
theorem dX3_levels_77 : decode cX3_levels 77 = .ok (.getfield 26, 3) := by decide +kernel
theorem dX3_levels_80 : decode cX3_levels 80 = .ok (.iload 5, 2) := by decide +kernel
theorem dX3_levels_82 : decode cX3_levels 82 = .ok (.iaload, 1) := by decide +kernel
theorem dX3_levels_83 : decode cX3_levels 83 = .ok (.iload_n 3, 1) := by decide +kernel
theorem dX3_levels_84 : decode cX3_levels 84 = .ok (.invokevirtual 126, 3) := by decide +kernel
theorem dX3_levels_87 : decode cX3_levels 87 = .ok (.iinc 5 1, 3) := by decide +kernel
theorem dX3_levels_90 : decode cX3_levels 90 = .ok (.goto (-44), 3) := by decide +kernel
theorem dX3_levels_93 : decode cX3_levels 93 = .ok (.iinc 4 1, 3) := by decide +kernel
theorem dX3_levels_96 : decode cX3_levels 96 = .ok (.goto (-59), 3) := by decide +kernel
theorem dX3_levels_99 : decode cX3_levels 99 = .ok (.return_, 1) := by decide +kernel
theorem dX3_barsLevel_0 : decode cX3_barsLevel 0 = .ok (.iload 4, 2) := by decide +kernel
theorem dX3_barsLevel_2 : decode cX3_barsLevel 2 = .ok (.invokestatic 67, 3) := by decide +kernel
theorem dX3_barsLevel_5 : decode cX3_barsLevel 5 = .ok (.ifCond .ne 7, 3) := by decide +kernel
theorem dX3_barsLevel_8 : decode cX3_barsLevel 8 = .ok (.iconst 1, 1) := by decide +kernel
theorem dX3_barsLevel_9 : decode cX3_barsLevel 9 = .ok (.goto 34, 3) := by decide +kernel
theorem dX3_barsLevel_12 : decode cX3_barsLevel 12 = .ok (.iload_n 1, 1) := by decide +kernel
theorem dX3_barsLevel_13 : decode cX3_barsLevel 13 = .ok (.iload_n 2, 1) := by decide +kernel
theorem dX3_barsLevel_14 : decode cX3_barsLevel 14 = .ok (.invokestatic 74, 3) := by decide +kernel
theorem dX3_barsLevel_17 : decode cX3_barsLevel 17 = .ok (.ifCond .le 11, 3) := by decide +kernel
theorem dX3_barsLevel_20 : decode cX3_barsLevel 20 = .ok (.iload_n 1, 1) := by decide +kernel
theorem dX3_barsLevel_21 : decode cX3_barsLevel 21 = .ok (.iload_n 2, 1) := by decide +kernel
theorem dX3_barsLevel_22 : decode cX3_barsLevel 22 = .ok (.invokestatic 74, 3) := by decide +kernel
theorem dX3_barsLevel_25 : decode cX3_barsLevel 25 = .ok (.goto 18, 3) := by decide +kernel
theorem dX3_barsLevel_28 : decode cX3_barsLevel 28 = .ok (.iload_n 3, 1) := by decide +kernel
theorem dX3_barsLevel_29 : decode cX3_barsLevel 29 = .ok (.iconst 1, 1) := by decide +kernel
theorem dX3_barsLevel_30 : decode cX3_barsLevel 30 = .ok (.bipush 99, 2) := by decide +kernel
theorem dX3_barsLevel_32 : decode cX3_barsLevel 32 = .ok (.invokestatic 60, 3) := by decide +kernel
theorem dX3_barsLevel_35 : decode cX3_barsLevel 35 = .ok (.ifCond .eq 7, 3) := by decide +kernel
theorem dX3_barsLevel_38 : decode cX3_barsLevel 38 = .ok (.iconst 0, 1) := by decide +kernel
theorem dX3_barsLevel_39 : decode cX3_barsLevel 39 = .ok (.goto 4, 3) := by decide +kernel
theorem dX3_barsLevel_42 : decode cX3_barsLevel 42 = .ok (.iconst 2, 1) := by decide +kernel
theorem dX3_barsLevel_43 : decode cX3_barsLevel 43 = .ok (.ireturn, 1) := by decide +kernel
theorem dX3_level_0 : decode cX3_level 0 = .ok (.aload_n 0, 1) := by decide +kernel
theorem dX3_level_1 : decode cX3_level 1 = .ok (.aload_n 0, 1) := by decide +kernel
theorem dX3_level_2 : decode cX3_level 2 = .ok (.iload_n 1, 1) := by decide +kernel
theorem dX3_level_3 : decode cX3_level 3 = .ok (.iload_n 2, 1) := by decide +kernel
theorem dX3_level_4 : decode cX3_level 4 = .ok (.iload_n 3, 1) := by decide +kernel
theorem dX3_level_5 : decode cX3_level 5 = .ok (.iconst 0, 1) := by decide +kernel
theorem dX3_level_6 : decode cX3_level 6 = .ok (.invokevirtual 130, 3) := by decide +kernel
theorem dX3_level_9 : decode cX3_level 9 = .ok (.putfield 56, 3) := by decide +kernel
theorem dX3_level_12 : decode cX3_level 12 = .ok (.aload_n 0, 1) := by decide +kernel
theorem dX3_level_13 : decode cX3_level 13 = .ok (.getfield 56, 3) := by decide +kernel
theorem dX3_level_16 : decode cX3_level 16 = .ok (.ifCond .le 5, 3) := by decide +kernel
theorem dX3_level_19 : decode cX3_level 19 = .ok (.iconst 0, 1) := by decide +kernel
theorem dX3_level_20 : decode cX3_level 20 = .ok (.ireturn, 1) := by decide +kernel
theorem dX3_level_21 : decode cX3_level 21 = .ok (.aload_n 0, 1) := by decide +kernel
theorem dX3_level_22 : decode cX3_level 22 = .ok (.iload_n 1, 1) := by decide +kernel
theorem dX3_level_23 : decode cX3_level 23 = .ok (.iload_n 2, 1) := by decide +kernel
theorem dX3_level_24 : decode cX3_level 24 = .ok (.iload_n 3, 1) := by decide +kernel
theorem dX3_level_25 : decode cX3_level 25 = .ok (.invokevirtual 134, 3) := by decide +kernel
theorem dX3_level_28 : decode cX3_level 28 = .ok (.aload_n 0, 1) := by decide +kernel
theorem dX3_level_29 : decode cX3_level 29 = .ok (.getfield 123, 3) := by decide +kernel
theorem dX3_level_32 : decode cX3_level 32 = .ok (.ireturn, 1) := by decide +kernel
theorem dX3_levelled_0 : decode cX3_levelled 0 = .ok (.aload_n 0, 1) := by decide +kernel
theorem dX3_levelled_1 : decode cX3_levelled 1 = .ok (.aload_n 0, 1) := by decide +kernel
theorem dX3_levelled_2 : decode cX3_levelled 2 = .ok (.iload_n 1, 1) := by decide +kernel
theorem dX3_levelled_3 : decode cX3_levelled 3 = .ok (.iload_n 2, 1) := by decide +kernel
theorem dX3_levelled_4 : decode cX3_levelled 4 = .ok (.iload_n 3, 1) := by decide +kernel
theorem dX3_levelled_5 : decode cX3_levelled 5 = .ok (.iload 4, 2) := by decide +kernel
theorem dX3_levelled_7 : decode cX3_levelled 7 = .ok (.invokevirtual 130, 3) := by decide +kernel
theorem dX3_levelled_10 : decode cX3_levelled 10 = .ok (.putfield 56, 3) := by decide +kernel
theorem dX3_levelled_13 : decode cX3_levelled 13 = .ok (.aload_n 0, 1) := by decide +kernel
theorem dX3_levelled_14 : decode cX3_levelled 14 = .ok (.getfield 56, 3) := by decide +kernel
theorem dX3_levelled_17 : decode cX3_levelled 17 = .ok (.ifCond .le 5, 3) := by decide +kernel
theorem dX3_levelled_20 : decode cX3_levelled 20 = .ok (.iconst 0, 1) := by decide +kernel
theorem dX3_levelled_21 : decode cX3_levelled 21 = .ok (.ireturn, 1) := by decide +kernel
theorem dX3_levelled_22 : decode cX3_levelled 22 = .ok (.aload_n 0, 1) := by decide +kernel
theorem dX3_levelled_23 : decode cX3_levelled 23 = .ok (.iload_n 1, 1) := by decide +kernel
theorem dX3_levelled_24 : decode cX3_levelled 24 = .ok (.iload_n 2, 1) := by decide +kernel
theorem dX3_levelled_25 : decode cX3_levelled 25 = .ok (.iload_n 3, 1) := by decide +kernel
theorem dX3_levelled_26 : decode cX3_levelled 26 = .ok (.invokevirtual 134, 3) := by decide +kernel
theorem dX3_levelled_29 : decode cX3_levelled 29 = .ok (.aload_n 0, 1) := by decide +kernel
theorem dX3_levelled_30 : decode cX3_levelled 30 = .ok (.getfield 53, 3) := by decide +kernel
theorem dX3_levelled_33 : decode cX3_levelled 33 = .ok (.iload 4, 2) := by decide +kernel
theorem dX3_levelled_35 : decode cX3_levelled 35 = .ok (.iaload, 1) := by decide +kernel
theorem dX3_levelled_36 : decode cX3_levelled 36 = .ok (.ireturn, 1) := by decide +kernel
theorem dJ9_max_7cf53_0 : decode cJ9_max_7cf53 0 = .ok (.iload_n 0, 1) := by decide +kernel
theorem dJ9_max_7cf53_1 : decode cJ9_max_7cf53 1 = .ok (.iload_n 1, 1) := by decide +kernel
theorem dJ9_max_7cf53_2 : decode cJ9_max_7cf53 2 = .ok (.if_icmp .lt 7, 3) := by decide +kernel
theorem dJ9_max_7cf53_5 : decode cJ9_max_7cf53 5 = .ok (.iload_n 0, 1) := by decide +kernel
theorem dJ9_max_7cf53_6 : decode cJ9_max_7cf53 6 = .ok (.goto 4, 3) := by decide +kernel
theorem dJ9_max_7cf53_9 : decode cJ9_max_7cf53 9 = .ok (.iload_n 1, 1) := by decide +kernel
theorem dJ9_max_7cf53_10 : decode cJ9_max_7cf53 10 = .ok (.ireturn, 1) := by decide +kernel
theorem dJ9_min_7cf53_0 : decode cJ9_min_7cf53 0 = .ok (.iload_n 0, 1) := by decide +kernel
theorem dJ9_min_7cf53_1 : decode cJ9_min_7cf53 1 = .ok (.iload_n 1, 1) := by decide +kernel
theorem dJ9_min_7cf53_2 : decode cJ9_min_7cf53 2 = .ok (.if_icmp .gt 7, 3) := by decide +kernel
theorem dJ9_min_7cf53_5 : decode cJ9_min_7cf53 5 = .ok (.iload_n 0, 1) := by decide +kernel
theorem dJ9_min_7cf53_6 : decode cJ9_min_7cf53 6 = .ok (.goto 4, 3) := by decide +kernel
theorem dJ9_min_7cf53_9 : decode cJ9_min_7cf53 9 = .ok (.iload_n 1, 1) := by decide +kernel
theorem dJ9_min_7cf53_10 : decode cJ9_min_7cf53 10 = .ok (.ireturn, 1) := by decide +kernel
theorem dJxa1e45_init_da8c8_0 : decode cJxa1e45_init_da8c8 0 = .ok (.aload_n 0, 1) := by decide +kernel
theorem dJxa1e45_init_da8c8_1 : decode cJxa1e45_init_da8c8 1 = .ok (.invokespecial 1, 3) := by decide +kernel
theorem dJxa1e45_init_da8c8_4 : decode cJxa1e45_init_da8c8 4 = .ok (.return_, 1) := by decide +kernel
theorem dJxc12de_init_da8c8_0 : decode cJxc12de_init_da8c8 0 = .ok (.aload_n 0, 1) := by decide +kernel
theorem dJxc12de_init_da8c8_1 : decode cJxc12de_init_da8c8 1 = .ok (.invokespecial 1, 3) := by decide +kernel
theorem dJxc12de_init_da8c8_4 : decode cJxc12de_init_da8c8 4 = .ok (.aload_n 0, 1) := by decide +kernel
theorem dJxc12de_init_da8c8_5 : decode cJxc12de_init_da8c8 5 = .ok (.iconst 0, 1) := by decide +kernel
theorem dJxc12de_init_da8c8_6 : decode cJxc12de_init_da8c8 6 = .ok (.putfield 7, 3) := by decide +kernel
theorem dJxc12de_init_da8c8_9 : decode cJxc12de_init_da8c8 9 = .ok (.return_, 1) := by decide +kernel
theorem dJx4a65c_init_da8c8_0 : decode cJx4a65c_init_da8c8 0 = .ok (.aload_n 0, 1) := by decide +kernel
theorem dJx4a65c_init_da8c8_1 : decode cJx4a65c_init_da8c8 1 = .ok (.invokespecial 1, 3) := by decide +kernel
theorem dJx4a65c_init_da8c8_4 : decode cJx4a65c_init_da8c8 4 = .ok (.aload_n 0, 1) := by decide +kernel
theorem dJx4a65c_init_da8c8_5 : decode cJx4a65c_init_da8c8 5 = .ok (.getstatic 39, 3) := by decide +kernel
theorem dJx4a65c_init_da8c8_8 : decode cJx4a65c_init_da8c8 8 = .ok (.putfield 9, 3) := by decide +kernel
theorem dJx4a65c_init_da8c8_11 : decode cJx4a65c_init_da8c8 11 = .ok (.return_, 1) := by decide +kernel
theorem dJx4a65c_grow_92f84_0 : decode cJx4a65c_grow_92f84 0 = .ok (.aload_n 0, 1) := by decide +kernel
theorem dJx4a65c_grow_92f84_1 : decode cJx4a65c_grow_92f84 1 = .ok (.getfield 9, 3) := by decide +kernel
theorem dJx4a65c_grow_92f84_4 : decode cJx4a65c_grow_92f84 4 = .ok (.arraylength, 1) := by decide +kernel
theorem dJx4a65c_grow_92f84_5 : decode cJx4a65c_grow_92f84 5 = .ok (.istore_n 2, 1) := by decide +kernel
theorem dJx4a65c_grow_92f84_6 : decode cJx4a65c_grow_92f84 6 = .ok (.iload_n 2, 1) := by decide +kernel
theorem dJx4a65c_grow_92f84_7 : decode cJx4a65c_grow_92f84 7 = .ok (.ifCond .gt 13, 3) := by decide +kernel
theorem dJx4a65c_grow_92f84_10 : decode cJx4a65c_grow_92f84 10 = .ok (.aload_n 0, 1) := by decide +kernel
theorem dJx4a65c_grow_92f84_11 : decode cJx4a65c_grow_92f84 11 = .ok (.getfield 9, 3) := by decide +kernel
theorem dJx4a65c_grow_92f84_14 : decode cJx4a65c_grow_92f84 14 = .ok (.getstatic 39, 3) := by decide +kernel
theorem dJx4a65c_grow_92f84_17 : decode cJx4a65c_grow_92f84 17 = .ok (.if_acmp .eq 28, 3) := by decide +kernel
theorem dJx4a65c_grow_92f84_20 : decode cJx4a65c_grow_92f84 20 = .ok (.iload_n 2, 1) := by decide +kernel
theorem dJx4a65c_grow_92f84_21 : decode cJx4a65c_grow_92f84 21 = .ok (.iload_n 1, 1) := by decide +kernel
theorem dJx4a65c_grow_92f84_22 : decode cJx4a65c_grow_92f84 22 = .ok (.iload_n 2, 1) := by decide +kernel
theorem dJx4a65c_grow_92f84_23 : decode cJx4a65c_grow_92f84 23 = .ok (.isub, 1) := by decide +kernel
theorem dJx4a65c_grow_92f84_24 : decode cJx4a65c_grow_92f84 24 = .ok (.iload_n 2, 1) := by decide +kernel
theorem dJx4a65c_grow_92f84_25 : decode cJx4a65c_grow_92f84 25 = .ok (.iconst 1, 1) := by decide +kernel
theorem dJx4a65c_grow_92f84_26 : decode cJx4a65c_grow_92f84 26 = .ok (.ishr, 1) := by decide +kernel
theorem dJx4a65c_grow_92f84_27 : decode cJx4a65c_grow_92f84 27 = .ok (.invokestatic 73, 3) := by decide +kernel
theorem dJx4a65c_grow_92f84_30 : decode cJx4a65c_grow_92f84 30 = .ok (.istore_n 3, 1) := by decide +kernel
theorem dJx4a65c_grow_92f84_31 : decode cJx4a65c_grow_92f84 31 = .ok (.aload_n 0, 1) := by decide +kernel
theorem dJx4a65c_grow_92f84_32 : decode cJx4a65c_grow_92f84 32 = .ok (.aload_n 0, 1) := by decide +kernel
theorem dJx4a65c_grow_92f84_33 : decode cJx4a65c_grow_92f84 33 = .ok (.getfield 9, 3) := by decide +kernel
theorem dJx4a65c_grow_92f84_36 : decode cJx4a65c_grow_92f84 36 = .ok (.iload_n 3, 1) := by decide +kernel
theorem dJx4a65c_grow_92f84_37 : decode cJx4a65c_grow_92f84 37 = .ok (.invokestatic 66, 3) := by decide +kernel
theorem dJx4a65c_grow_92f84_40 : decode cJx4a65c_grow_92f84 40 = .ok (.dup_x1, 1) := by decide +kernel
theorem dJx4a65c_grow_92f84_41 : decode cJx4a65c_grow_92f84 41 = .ok (.putfield 9, 3) := by decide +kernel
theorem dJx4a65c_grow_92f84_44 : decode cJx4a65c_grow_92f84 44 = .ok (.areturn, 1) := by decide +kernel
theorem dJx4a65c_grow_92f84_45 : decode cJx4a65c_grow_92f84 45 = .ok (.aload_n 0, 1) := by decide +kernel
theorem dJx4a65c_grow_92f84_46 : decode cJx4a65c_grow_92f84 46 = .ok (.bipush 10, 2) := by decide +kernel
theorem dJx4a65c_grow_92f84_48 : decode cJx4a65c_grow_92f84 48 = .ok (.iload_n 1, 1) := by decide +kernel
theorem dJx4a65c_grow_92f84_49 : decode cJx4a65c_grow_92f84 49 = .ok (.invokestatic 79, 3) := by decide +kernel
theorem dJx4a65c_grow_92f84_52 : decode cJx4a65c_grow_92f84 52 = .ok (.anewarray 7, 3) := by decide +kernel
theorem dJx4a65c_grow_92f84_55 : decode cJx4a65c_grow_92f84 55 = .ok (.dup_x1, 1) := by decide +kernel
theorem dJx4a65c_grow_92f84_56 : decode cJx4a65c_grow_92f84 56 = .ok (.putfield 9, 3) := by decide +kernel
theorem dJx4a65c_grow_92f84_59 : decode cJx4a65c_grow_92f84 59 = .ok (.areturn, 1) := by decide +kernel
theorem dJx4a65c_grow_d5877_0 : decode cJx4a65c_grow_d5877 0 = .ok (.aload_n 0, 1) := by decide +kernel
theorem dJx4a65c_grow_d5877_1 : decode cJx4a65c_grow_d5877 1 = .ok (.aload_n 0, 1) := by decide +kernel
theorem dJx4a65c_grow_d5877_2 : decode cJx4a65c_grow_d5877 2 = .ok (.getfield 48, 3) := by decide +kernel
theorem dJx4a65c_grow_d5877_5 : decode cJx4a65c_grow_d5877 5 = .ok (.iconst 1, 1) := by decide +kernel
theorem dJx4a65c_grow_d5877_6 : decode cJx4a65c_grow_d5877 6 = .ok (.iadd, 1) := by decide +kernel
theorem dJx4a65c_grow_d5877_7 : decode cJx4a65c_grow_d5877 7 = .ok (.invokevirtual 69, 3) := by decide +kernel
theorem dJx4a65c_grow_d5877_10 : decode cJx4a65c_grow_d5877 10 = .ok (.areturn, 1) := by decide +kernel
theorem dJx4a65c_size_8abf5_0 : decode cJx4a65c_size_8abf5 0 = .ok (.aload_n 0, 1) := by decide +kernel
theorem dJx4a65c_size_8abf5_1 : decode cJx4a65c_size_8abf5 1 = .ok (.getfield 48, 3) := by decide +kernel
theorem dJx4a65c_size_8abf5_4 : decode cJx4a65c_size_8abf5 4 = .ok (.ireturn, 1) := by decide +kernel
theorem dJx4a65c_elementData_915e3_0 : decode cJx4a65c_elementData_915e3 0 = .ok (.aload_n 0, 1) := by decide +kernel
theorem dJx4a65c_elementData_915e3_1 : decode cJx4a65c_elementData_915e3 1 = .ok (.getfield 9, 3) := by decide +kernel
theorem dJx4a65c_elementData_915e3_4 : decode cJx4a65c_elementData_915e3 4 = .ok (.iload_n 1, 1) := by decide +kernel
theorem dJx4a65c_elementData_915e3_5 : decode cJx4a65c_elementData_915e3 5 = .ok (.aaload, 1) := by decide +kernel
theorem dJx4a65c_elementData_915e3_6 : decode cJx4a65c_elementData_915e3 6 = .ok (.areturn, 1) := by decide +kernel
theorem dJx4a65c_get_915e3_0 : decode cJx4a65c_get_915e3 0 = .ok (.iload_n 1, 1) := by decide +kernel
theorem dJx4a65c_get_915e3_1 : decode cJx4a65c_get_915e3 1 = .ok (.aload_n 0, 1) := by decide +kernel
theorem dJx4a65c_get_915e3_2 : decode cJx4a65c_get_915e3 2 = .ok (.getfield 48, 3) := by decide +kernel
theorem dJx4a65c_get_915e3_5 : decode cJx4a65c_get_915e3 5 = .ok (.invokestatic 118, 3) := by decide +kernel
theorem dJx4a65c_get_915e3_8 : decode cJx4a65c_get_915e3 8 = .ok (.pop, 1) := by decide +kernel
theorem dJx4a65c_get_915e3_9 : decode cJx4a65c_get_915e3 9 = .ok (.aload_n 0, 1) := by decide +kernel
theorem dJx4a65c_get_915e3_10 : decode cJx4a65c_get_915e3 10 = .ok (.iload_n 1, 1) := by decide +kernel
theorem dJx4a65c_get_915e3_11 : decode cJx4a65c_get_915e3 11 = .ok (.invokevirtual 123, 3) := by decide +kernel
theorem dJx4a65c_get_915e3_14 : decode cJx4a65c_get_915e3 14 = .ok (.areturn, 1) := by decide +kernel
theorem dJx4a65c_add_72be8_0 : decode cJx4a65c_add_72be8 0 = .ok (.iload_n 3, 1) := by decide +kernel
theorem dJx4a65c_add_72be8_1 : decode cJx4a65c_add_72be8 1 = .ok (.aload_n 2, 1) := by decide +kernel
theorem dJx4a65c_add_72be8_2 : decode cJx4a65c_add_72be8 2 = .ok (.arraylength, 1) := by decide +kernel
theorem dJx4a65c_add_72be8_3 : decode cJx4a65c_add_72be8 3 = .ok (.if_icmp .ne 8, 3) := by decide +kernel
theorem dJx4a65c_add_72be8_6 : decode cJx4a65c_add_72be8 6 = .ok (.aload_n 0, 1) := by decide +kernel
theorem dJx4a65c_add_72be8_7 : decode cJx4a65c_add_72be8 7 = .ok (.invokevirtual 129, 3) := by decide +kernel
theorem dJx4a65c_add_72be8_10 : decode cJx4a65c_add_72be8 10 = .ok (.astore_n 2, 1) := by decide +kernel
theorem dJx4a65c_add_72be8_11 : decode cJx4a65c_add_72be8 11 = .ok (.aload_n 2, 1) := by decide +kernel
theorem dJx4a65c_add_72be8_12 : decode cJx4a65c_add_72be8 12 = .ok (.iload_n 3, 1) := by decide +kernel
theorem dJx4a65c_add_72be8_13 : decode cJx4a65c_add_72be8 13 = .ok (.aload_n 1, 1) := by decide +kernel
theorem dJx4a65c_add_72be8_14 : decode cJx4a65c_add_72be8 14 = .ok (.aastore, 1) := by decide +kernel
theorem dJx4a65c_add_72be8_15 : decode cJx4a65c_add_72be8 15 = .ok (.aload_n 0, 1) := by decide +kernel
theorem dJx4a65c_add_72be8_16 : decode cJx4a65c_add_72be8 16 = .ok (.iload_n 3, 1) := by decide +kernel
theorem dJx4a65c_add_72be8_17 : decode cJx4a65c_add_72be8 17 = .ok (.iconst 1, 1) := by decide +kernel
theorem dJx4a65c_add_72be8_18 : decode cJx4a65c_add_72be8 18 = .ok (.iadd, 1) := by decide +kernel
theorem dJx4a65c_add_72be8_19 : decode cJx4a65c_add_72be8 19 = .ok (.putfield 48, 3) := by decide +kernel
theorem dJx4a65c_add_72be8_22 : decode cJx4a65c_add_72be8 22 = .ok (.return_, 1) := by decide +kernel
theorem dJx4a65c_add_9ea2d_0 : decode cJx4a65c_add_9ea2d 0 = .ok (.aload_n 0, 1) := by decide +kernel
theorem dJx4a65c_add_9ea2d_1 : decode cJx4a65c_add_9ea2d 1 = .ok (.dup, 1) := by decide +kernel
theorem dJx4a65c_add_9ea2d_2 : decode cJx4a65c_add_9ea2d 2 = .ok (.getfield 63, 3) := by decide +kernel
theorem dJx4a65c_add_9ea2d_5 : decode cJx4a65c_add_9ea2d 5 = .ok (.iconst 1, 1) := by decide +kernel
theorem dJx4a65c_add_9ea2d_6 : decode cJx4a65c_add_9ea2d 6 = .ok (.iadd, 1) := by decide +kernel
theorem dJx4a65c_add_9ea2d_7 : decode cJx4a65c_add_9ea2d 7 = .ok (.putfield 63, 3) := by decide +kernel
theorem dJx4a65c_add_9ea2d_10 : decode cJx4a65c_add_9ea2d 10 = .ok (.aload_n 0, 1) := by decide +kernel
theorem dJx4a65c_add_9ea2d_11 : decode cJx4a65c_add_9ea2d 11 = .ok (.aload_n 1, 1) := by decide +kernel
theorem dJx4a65c_add_9ea2d_12 : decode cJx4a65c_add_9ea2d 12 = .ok (.aload_n 0, 1) := by decide +kernel
theorem dJx4a65c_add_9ea2d_13 : decode cJx4a65c_add_9ea2d 13 = .ok (.getfield 9, 3) := by decide +kernel
theorem dJx4a65c_add_9ea2d_16 : decode cJx4a65c_add_9ea2d 16 = .ok (.aload_n 0, 1) := by decide +kernel
theorem dJx4a65c_add_9ea2d_17 : decode cJx4a65c_add_9ea2d 17 = .ok (.getfield 48, 3) := by decide +kernel
theorem dJx4a65c_add_9ea2d_20 : decode cJx4a65c_add_9ea2d 20 = .ok (.invokevirtual 131, 3) := by decide +kernel
theorem dJx4a65c_add_9ea2d_23 : decode cJx4a65c_add_9ea2d 23 = .ok (.iconst 1, 1) := by decide +kernel
theorem dJx4a65c_add_9ea2d_24 : decode cJx4a65c_add_9ea2d 24 = .ok (.ireturn, 1) := by decide +kernel
theorem dJ7_fill_53178_0 : decode cJ7_fill_53178 0 = .ok (.iconst 0, 1) := by decide +kernel
theorem dJ7_fill_53178_1 : decode cJ7_fill_53178 1 = .ok (.istore_n 2, 1) := by decide +kernel
theorem dJ7_fill_53178_2 : decode cJ7_fill_53178 2 = .ok (.aload_n 0, 1) := by decide +kernel
theorem dJ7_fill_53178_3 : decode cJ7_fill_53178 3 = .ok (.arraylength, 1) := by decide +kernel
theorem dJ7_fill_53178_4 : decode cJ7_fill_53178 4 = .ok (.istore_n 3, 1) := by decide +kernel
theorem dJ7_fill_53178_5 : decode cJ7_fill_53178 5 = .ok (.iload_n 2, 1) := by decide +kernel
theorem dJ7_fill_53178_6 : decode cJ7_fill_53178 6 = .ok (.iload_n 3, 1) := by decide +kernel
theorem dJ7_fill_53178_7 : decode cJ7_fill_53178 7 = .ok (.if_icmp .ge 13, 3) := by decide +kernel
theorem dJ7_fill_53178_10 : decode cJ7_fill_53178 10 = .ok (.aload_n 0, 1) := by decide +kernel
theorem dJ7_fill_53178_11 : decode cJ7_fill_53178 11 = .ok (.iload_n 2, 1) := by decide +kernel
theorem dJ7_fill_53178_12 : decode cJ7_fill_53178 12 = .ok (.iload_n 1, 1) := by decide +kernel
theorem dJ7_fill_53178_13 : decode cJ7_fill_53178 13 = .ok (.iastore, 1) := by decide +kernel
theorem dJ7_fill_53178_14 : decode cJ7_fill_53178 14 = .ok (.iinc 2 1, 3) := by decide +kernel
theorem dJ7_fill_53178_17 : decode cJ7_fill_53178 17 = .ok (.goto (-12), 3) := by decide +kernel
theorem dJ7_fill_53178_20 : decode cJ7_fill_53178 20 = .ok (.return_, 1) := by decide +kernel
theorem dJ7_copyOf_1904c_0 : decode cJ7_copyOf_1904c 0 = .ok (.aload_n 0, 1) := by decide +kernel
theorem dJ7_copyOf_1904c_1 : decode cJ7_copyOf_1904c 1 = .ok (.iload_n 1, 1) := by decide +kernel
theorem dJ7_copyOf_1904c_2 : decode cJ7_copyOf_1904c 2 = .ok (.aload_n 0, 1) := by decide +kernel
theorem dJ7_copyOf_1904c_3 : decode cJ7_copyOf_1904c 3 = .ok (.invokevirtual 86, 3) := by decide +kernel
theorem dJ7_copyOf_1904c_6 : decode cJ7_copyOf_1904c 6 = .ok (.invokestatic 300, 3) := by decide +kernel
theorem dJ7_copyOf_1904c_9 : decode cJ7_copyOf_1904c 9 = .ok (.areturn, 1) := by decide +kernel
theorem dJ7_copyOf_6403c_0 : decode cJ7_copyOf_6403c 0 = .ok (.aload_n 2, 1) := by decide +kernel
theorem dJ7_copyOf_6403c_1 : decode cJ7_copyOf_6403c 1 = .ok (.ldc 110, 2) := by decide +kernel
theorem dJ7_copyOf_6403c_3 : decode cJ7_copyOf_6403c 3 = .ok (.if_acmp .ne 10, 3) := by decide +kernel
theorem dJ7_copyOf_6403c_6 : decode cJ7_copyOf_6403c 6 = .ok (.iload_n 1, 1) := by decide +kernel
theorem dJ7_copyOf_6403c_7 : decode cJ7_copyOf_6403c 7 = .ok (.anewarray 2, 3) := by decide +kernel
theorem dJ7_copyOf_6403c_10 : decode cJ7_copyOf_6403c 10 = .ok (.goto 14, 3) := by decide +kernel
theorem dJ7_copyOf_6403c_13 : decode cJ7_copyOf_6403c 13 = .ok (.aload_n 2, 1) := by decide +kernel
theorem dJ7_copyOf_6403c_14 : decode cJ7_copyOf_6403c 14 = .ok (.invokevirtual 90, 3) := by decide +kernel
theorem dJ7_copyOf_6403c_17 : decode cJ7_copyOf_6403c 17 = .ok (.iload_n 1, 1) := by decide +kernel
theorem dJ7_copyOf_6403c_18 : decode cJ7_copyOf_6403c 18 = .ok (.invokestatic 95, 3) := by decide +kernel
theorem dJ7_copyOf_6403c_21 : decode cJ7_copyOf_6403c 21 = .ok (.checkcast 110, 3) := by decide +kernel
theorem dJ7_copyOf_6403c_24 : decode cJ7_copyOf_6403c 24 = .ok (.astore_n 3, 1) := by decide +kernel
theorem dJ7_copyOf_6403c_25 : decode cJ7_copyOf_6403c 25 = .ok (.aload_n 0, 1) := by decide +kernel
theorem dJ7_copyOf_6403c_26 : decode cJ7_copyOf_6403c 26 = .ok (.iconst 0, 1) := by decide +kernel
theorem dJ7_copyOf_6403c_27 : decode cJ7_copyOf_6403c 27 = .ok (.aload_n 3, 1) := by decide +kernel
theorem dJ7_copyOf_6403c_28 : decode cJ7_copyOf_6403c 28 = .ok (.iconst 0, 1) := by decide +kernel
theorem dJ7_copyOf_6403c_29 : decode cJ7_copyOf_6403c 29 = .ok (.aload_n 0, 1) := by decide +kernel
theorem dJ7_copyOf_6403c_30 : decode cJ7_copyOf_6403c 30 = .ok (.arraylength, 1) := by decide +kernel
theorem dJ7_copyOf_6403c_31 : decode cJ7_copyOf_6403c 31 = .ok (.iload_n 1, 1) := by decide +kernel
theorem dJ7_copyOf_6403c_32 : decode cJ7_copyOf_6403c 32 = .ok (.invokestatic 304, 3) := by decide +kernel
theorem dJ7_copyOf_6403c_35 : decode cJ7_copyOf_6403c 35 = .ok (.invokestatic 150, 3) := by decide +kernel
theorem dJ7_copyOf_6403c_38 : decode cJ7_copyOf_6403c 38 = .ok (.aload_n 3, 1) := by decide +kernel
theorem dJ7_copyOf_6403c_39 : decode cJ7_copyOf_6403c 39 = .ok (.areturn, 1) := by decide +kernel
theorem dJ15_checkIndex_7cf53_0 : decode cJ15_checkIndex_7cf53 0 = .ok (.iload_n 0, 1) := by decide +kernel
theorem dJ15_checkIndex_7cf53_1 : decode cJ15_checkIndex_7cf53 1 = .ok (.iload_n 1, 1) := by decide +kernel
theorem dJ15_checkIndex_7cf53_2 : decode cJ15_checkIndex_7cf53 2 = .ok (.aconst_null, 1) := by decide +kernel
theorem dJ15_checkIndex_7cf53_3 : decode cJ15_checkIndex_7cf53 3 = .ok (.invokestatic 105, 3) := by decide +kernel
theorem dJ15_checkIndex_7cf53_6 : decode cJ15_checkIndex_7cf53 6 = .ok (.ireturn, 1) := by decide +kernel
theorem dJ8_newLength_cabcc_0 : decode cJ8_newLength_cabcc 0 = .ok (.iload_n 0, 1) := by decide +kernel
theorem dJ8_newLength_cabcc_1 : decode cJ8_newLength_cabcc 1 = .ok (.iload_n 1, 1) := by decide +kernel
theorem dJ8_newLength_cabcc_2 : decode cJ8_newLength_cabcc 2 = .ok (.iload_n 2, 1) := by decide +kernel
theorem dJ8_newLength_cabcc_3 : decode cJ8_newLength_cabcc 3 = .ok (.invokestatic 194, 3) := by decide +kernel
theorem dJ8_newLength_cabcc_6 : decode cJ8_newLength_cabcc 6 = .ok (.iadd, 1) := by decide +kernel
theorem dJ8_newLength_cabcc_7 : decode cJ8_newLength_cabcc 7 = .ok (.istore_n 3, 1) := by decide +kernel
theorem dJ8_newLength_cabcc_8 : decode cJ8_newLength_cabcc 8 = .ok (.iconst 0, 1) := by decide +kernel
theorem dJ8_newLength_cabcc_9 : decode cJ8_newLength_cabcc 9 = .ok (.iload_n 3, 1) := by decide +kernel
theorem dJ8_newLength_cabcc_10 : decode cJ8_newLength_cabcc 10 = .ok (.if_icmp .ge 11, 3) := by decide +kernel
theorem dJ8_newLength_cabcc_13 : decode cJ8_newLength_cabcc 13 = .ok (.iload_n 3, 1) := by decide +kernel
theorem dJ8_newLength_cabcc_14 : decode cJ8_newLength_cabcc 14 = .ok (.ldc 200, 2) := by decide +kernel
theorem dJ8_newLength_cabcc_16 : decode cJ8_newLength_cabcc 16 = .ok (.if_icmp .gt 5, 3) := by decide +kernel
theorem dJ8_newLength_cabcc_19 : decode cJ8_newLength_cabcc 19 = .ok (.iload_n 3, 1) := by decide +kernel
theorem dJ8_newLength_cabcc_20 : decode cJ8_newLength_cabcc 20 = .ok (.ireturn, 1) := by decide +kernel
theorem dJ8_newLength_cabcc_21 : decode cJ8_newLength_cabcc 21 = .ok (.iload_n 0, 1) := by decide +kernel
theorem dJ8_newLength_cabcc_22 : decode cJ8_newLength_cabcc 22 = .ok (.iload_n 1, 1) := by decide +kernel
theorem dJ8_newLength_cabcc_23 : decode cJ8_newLength_cabcc 23 = .ok (.invokestatic 201, 3) := by decide +kernel
theorem dJ8_newLength_cabcc_26 : decode cJ8_newLength_cabcc 26 = .ok (.ireturn, 1) := by decide +kernel
theorem dJ8_hugeLength_7cf53_0 : decode cJ8_hugeLength_7cf53 0 = .ok (.iload_n 0, 1) := by decide +kernel
theorem dJ8_hugeLength_7cf53_1 : decode cJ8_hugeLength_7cf53 1 = .ok (.iload_n 1, 1) := by decide +kernel
theorem dJ8_hugeLength_7cf53_2 : decode cJ8_hugeLength_7cf53 2 = .ok (.iadd, 1) := by decide +kernel
theorem dJ8_hugeLength_7cf53_3 : decode cJ8_hugeLength_7cf53 3 = .ok (.istore_n 2, 1) := by decide +kernel
theorem dJ8_hugeLength_7cf53_4 : decode cJ8_hugeLength_7cf53 4 = .ok (.iload_n 2, 1) := by decide +kernel
theorem dJ8_hugeLength_7cf53_5 : decode cJ8_hugeLength_7cf53 5 = .ok (.ifCond .ge 44, 3) := by decide +kernel
theorem dJ8_hugeLength_7cf53_8 : decode cJ8_hugeLength_7cf53 8 = .ok (.new 204, 3) := by decide +kernel
theorem dJ8_hugeLength_7cf53_11 : decode cJ8_hugeLength_7cf53 11 = .ok (.dup, 1) := by decide +kernel
theorem dJ8_hugeLength_7cf53_12 : decode cJ8_hugeLength_7cf53 12 = .ok (.new 89, 3) := by decide +kernel
theorem dJ8_hugeLength_7cf53_15 : decode cJ8_hugeLength_7cf53 15 = .ok (.dup, 1) := by decide +kernel
theorem dJ8_hugeLength_7cf53_16 : decode cJ8_hugeLength_7cf53 16 = .ok (.invokespecial 91, 3) := by decide +kernel
theorem dJ8_hugeLength_7cf53_19 : decode cJ8_hugeLength_7cf53 19 = .ok (.ldc 206, 2) := by decide +kernel
theorem dJ8_hugeLength_7cf53_21 : decode cJ8_hugeLength_7cf53 21 = .ok (.invokevirtual 94, 3) := by decide +kernel
theorem dJ8_hugeLength_7cf53_24 : decode cJ8_hugeLength_7cf53 24 = .ok (.iload_n 0, 1) := by decide +kernel
theorem dJ8_hugeLength_7cf53_25 : decode cJ8_hugeLength_7cf53 25 = .ok (.invokevirtual 98, 3) := by decide +kernel
theorem dJ8_hugeLength_7cf53_28 : decode cJ8_hugeLength_7cf53 28 = .ok (.ldc 208, 2) := by decide +kernel
theorem dJ8_hugeLength_7cf53_30 : decode cJ8_hugeLength_7cf53 30 = .ok (.invokevirtual 94, 3) := by decide +kernel
theorem dJ8_hugeLength_7cf53_33 : decode cJ8_hugeLength_7cf53 33 = .ok (.iload_n 1, 1) := by decide +kernel
theorem dJ8_hugeLength_7cf53_34 : decode cJ8_hugeLength_7cf53 34 = .ok (.invokevirtual 98, 3) := by decide +kernel
theorem dJ8_hugeLength_7cf53_37 : decode cJ8_hugeLength_7cf53 37 = .ok (.ldc 210, 2) := by decide +kernel
theorem dJ8_hugeLength_7cf53_39 : decode cJ8_hugeLength_7cf53 39 = .ok (.invokevirtual 94, 3) := by decide +kernel
theorem dJ8_hugeLength_7cf53_42 : decode cJ8_hugeLength_7cf53 42 = .ok (.invokevirtual 101, 3) := by decide +kernel
theorem dJ8_hugeLength_7cf53_45 : decode cJ8_hugeLength_7cf53 45 = .ok (.invokespecial 212, 3) := by decide +kernel
theorem dJ8_hugeLength_7cf53_48 : decode cJ8_hugeLength_7cf53 48 = .ok (.athrow, 1) := by decide +kernel
theorem dJ8_hugeLength_7cf53_49 : decode cJ8_hugeLength_7cf53 49 = .ok (.iload_n 2, 1) := by decide +kernel
theorem dJ8_hugeLength_7cf53_50 : decode cJ8_hugeLength_7cf53 50 = .ok (.ldc 200, 2) := by decide +kernel
theorem dJ8_hugeLength_7cf53_52 : decode cJ8_hugeLength_7cf53 52 = .ok (.if_icmp .gt 6, 3) := by decide +kernel
theorem dJ8_hugeLength_7cf53_55 : decode cJ8_hugeLength_7cf53 55 = .ok (.ldc 200, 2) := by decide +kernel
theorem dJ8_hugeLength_7cf53_57 : decode cJ8_hugeLength_7cf53 57 = .ok (.ireturn, 1) := by decide +kernel
theorem dJ8_hugeLength_7cf53_58 : decode cJ8_hugeLength_7cf53 58 = .ok (.iload_n 2, 1) := by decide +kernel
theorem dJ8_hugeLength_7cf53_59 : decode cJ8_hugeLength_7cf53 59 = .ok (.ireturn, 1) := by decide +kernel
theorem dJ3_checkIndex_8e157_0 : decode cJ3_checkIndex_8e157 0 = .ok (.iload_n 0, 1) := by decide +kernel
theorem dJ3_checkIndex_8e157_1 : decode cJ3_checkIndex_8e157 1 = .ok (.ifCond .lt 8, 3) := by decide +kernel
theorem dJ3_checkIndex_8e157_4 : decode cJ3_checkIndex_8e157 4 = .ok (.iload_n 0, 1) := by decide +kernel
theorem dJ3_checkIndex_8e157_5 : decode cJ3_checkIndex_8e157 5 = .ok (.iload_n 1, 1) := by decide +kernel
theorem dJ3_checkIndex_8e157_6 : decode cJ3_checkIndex_8e157 6 = .ok (.if_icmp .lt 10, 3) := by decide +kernel
theorem dJ3_checkIndex_8e157_9 : decode cJ3_checkIndex_8e157 9 = .ok (.aload_n 2, 1) := by decide +kernel
theorem dJ3_checkIndex_8e157_10 : decode cJ3_checkIndex_8e157 10 = .ok (.iload_n 0, 1) := by decide +kernel
theorem dJ3_checkIndex_8e157_11 : decode cJ3_checkIndex_8e157 11 = .ok (.iload_n 1, 1) := by decide +kernel
theorem dJ3_checkIndex_8e157_12 : decode cJ3_checkIndex_8e157 12 = .ok (.invokestatic 95, 3) := by decide +kernel
theorem dJ3_checkIndex_8e157_15 : decode cJ3_checkIndex_8e157 15 = .ok (.athrow, 1) := by decide +kernel
theorem dJ3_checkIndex_8e157_16 : decode cJ3_checkIndex_8e157 16 = .ok (.iload_n 0, 1) := by decide +kernel
theorem dJ3_checkIndex_8e157_17 : decode cJ3_checkIndex_8e157 17 = .ok (.ireturn, 1) := by decide +kernel
theorem dL_holiday_0 : decode cL_holiday 0 = .ok (.aload_n 2, 1) := by decide +kernel
theorem dL_holiday_1 : decode cL_holiday 1 = .ok (.iconst 0, 1) := by decide +kernel
theorem dL_holiday_2 : decode cL_holiday 2 = .ok (.aload_n 0, 1) := by decide +kernel
theorem dL_holiday_3 : decode cL_holiday 3 = .ok (.iload_n 1, 1) := by decide +kernel
theorem dL_holiday_4 : decode cL_holiday 4 = .ok (.invokevirtual 7, 3) := by decide +kernel
theorem dL_holiday_7 : decode cL_holiday 7 = .ok (.ifCond .eq 7, 3) := by decide +kernel
theorem dL_holiday_10 : decode cL_holiday 10 = .ok (.lconst 1, 1) := by decide +kernel
theorem dL_holiday_11 : decode cL_holiday 11 = .ok (.goto 4, 3) := by decide +kernel
theorem dL_holiday_14 : decode cL_holiday 14 = .ok (.lconst 0, 1) := by decide +kernel
theorem dL_holiday_15 : decode cL_holiday 15 = .ok (.lastore, 1) := by decide +kernel
theorem dL_holiday_16 : decode cL_holiday 16 = .ok (.goto 6, 3) := by decide +kernel
theorem dL_holiday_19 : decode cL_holiday 19 = .ok (.astore_n 3, 1) := by decide +kernel
theorem dL_holiday_20 : decode cL_holiday 20 = .ok (.iconst 1, 1) := by decide +kernel
theorem dL_holiday_21 : decode cL_holiday 21 = .ok (.ireturn, 1) := by decide +kernel
theorem dL_holiday_22 : decode cL_holiday 22 = .ok (.iconst 0, 1) := by decide +kernel
theorem dL_holiday_23 : decode cL_holiday 23 = .ok (.ireturn, 1) := by decide +kernel
theorem dL_isWorking_0 : decode cL_isWorking 0 = .ok (.aload_n 2, 1) := by decide +kernel
theorem dL_isWorking_1 : decode cL_isWorking 1 = .ok (.iconst 0, 1) := by decide +kernel
theorem dL_isWorking_2 : decode cL_isWorking 2 = .ok (.aload_n 0, 1) := by decide +kernel
theorem dL_isWorking_3 : decode cL_isWorking 3 = .ok (.iload_n 1, 1) := by decide +kernel
theorem dL_isWorking_4 : decode cL_isWorking 4 = .ok (.invokevirtual 15, 3) := by decide +kernel
theorem dL_isWorking_7 : decode cL_isWorking 7 = .ok (.ifCond .eq 7, 3) := by decide +kernel
theorem dL_isWorking_10 : decode cL_isWorking 10 = .ok (.lconst 1, 1) := by decide +kernel
theorem dL_isWorking_11 : decode cL_isWorking 11 = .ok (.goto 4, 3) := by decide +kernel
theorem dL_isWorking_14 : decode cL_isWorking 14 = .ok (.lconst 0, 1) := by decide +kernel
theorem dL_isWorking_15 : decode cL_isWorking 15 = .ok (.lastore, 1) := by decide +kernel
theorem dL_isWorking_16 : decode cL_isWorking 16 = .ok (.goto 6, 3) := by decide +kernel
theorem dL_isWorking_19 : decode cL_isWorking 19 = .ok (.astore_n 3, 1) := by decide +kernel
theorem dL_isWorking_20 : decode cL_isWorking 20 = .ok (.iconst 1, 1) := by decide +kernel
theorem dL_isWorking_21 : decode cL_isWorking 21 = .ok (.ireturn, 1) := by decide +kernel
theorem dL_isWorking_22 : decode cL_isWorking 22 = .ok (.iconst 0, 1) := by decide +kernel
theorem dL_isWorking_23 : decode cL_isWorking 23 = .ok (.ireturn, 1) := by decide +kernel
theorem dL_workingDays_0 : decode cL_workingDays 0 = .ok (.aload_n 3, 1) := by decide +kernel
theorem dL_workingDays_1 : decode cL_workingDays 1 = .ok (.iconst 0, 1) := by decide +kernel
theorem dL_workingDays_2 : decode cL_workingDays 2 = .ok (.aload_n 0, 1) := by decide +kernel
theorem dL_workingDays_3 : decode cL_workingDays 3 = .ok (.iload_n 1, 1) := by decide +kernel
theorem dL_workingDays_4 : decode cL_workingDays 4 = .ok (.iload_n 2, 1) := by decide +kernel
theorem dL_workingDays_5 : decode cL_workingDays 5 = .ok (.invokevirtual 18, 3) := by decide +kernel
theorem dL_workingDays_8 : decode cL_workingDays 8 = .ok (.i2l, 1) := by decide +kernel
theorem dL_workingDays_9 : decode cL_workingDays 9 = .ok (.lastore, 1) := by decide +kernel
theorem dL_workingDays_10 : decode cL_workingDays 10 = .ok (.goto 11, 3) := by decide +kernel
theorem dL_workingDays_13 : decode cL_workingDays 13 = .ok (.astore 4, 2) := by decide +kernel
theorem dL_workingDays_15 : decode cL_workingDays 15 = .ok (.iconst 1, 1) := by decide +kernel
theorem dL_workingDays_16 : decode cL_workingDays 16 = .ok (.ireturn, 1) := by decide +kernel
theorem dL_workingDays_17 : decode cL_workingDays 17 = .ok (.astore 4, 2) := by decide +kernel
theorem dL_workingDays_19 : decode cL_workingDays 19 = .ok (.iconst 2, 1) := by decide +kernel
theorem dL_workingDays_20 : decode cL_workingDays 20 = .ok (.ireturn, 1) := by decide +kernel
theorem dL_workingDays_21 : decode cL_workingDays 21 = .ok (.iconst 0, 1) := by decide +kernel
theorem dL_workingDays_22 : decode cL_workingDays 22 = .ok (.ireturn, 1) := by decide +kernel
theorem dL_pass_0 : decode cL_pass 0 = .ok (.aload_n 2, 1) := by decide +kernel
theorem dL_pass_1 : decode cL_pass 1 = .ok (.iconst 0, 1) := by decide +kernel
theorem dL_pass_2 : decode cL_pass 2 = .ok (.aload_n 0, 1) := by decide +kernel
theorem dL_pass_3 : decode cL_pass 3 = .ok (.iload_n 1, 1) := by decide +kernel
theorem dL_pass_4 : decode cL_pass 4 = .ok (.invokevirtual 24, 3) := by decide +kernel
theorem dL_pass_7 : decode cL_pass 7 = .ok (.i2l, 1) := by decide +kernel
theorem dL_pass_8 : decode cL_pass 8 = .ok (.lastore, 1) := by decide +kernel
theorem dL_pass_9 : decode cL_pass 9 = .ok (.goto 9, 3) := by decide +kernel
theorem dL_pass_12 : decode cL_pass 12 = .ok (.astore_n 3, 1) := by decide +kernel
theorem dL_pass_13 : decode cL_pass 13 = .ok (.iconst 1, 1) := by decide +kernel
theorem dL_pass_14 : decode cL_pass 14 = .ok (.ireturn, 1) := by decide +kernel
theorem dL_pass_15 : decode cL_pass 15 = .ok (.astore_n 3, 1) := by decide +kernel
theorem dL_pass_16 : decode cL_pass 16 = .ok (.iconst 2, 1) := by decide +kernel
theorem dL_pass_17 : decode cL_pass 17 = .ok (.ireturn, 1) := by decide +kernel
theorem dL_pass_18 : decode cL_pass 18 = .ok (.iconst 0, 1) := by decide +kernel
theorem dL_pass_19 : decode cL_pass 19 = .ok (.ireturn, 1) := by decide +kernel
theorem dL_addRule_0 : decode cL_addRule 0 = .ok (.aload 7, 2) := by decide +kernel
theorem dL_addRule_2 : decode cL_addRule 2 = .ok (.iconst 0, 1) := by decide +kernel
theorem dL_addRule_3 : decode cL_addRule 3 = .ok (.aload_n 0, 1) := by decide +kernel
theorem dL_addRule_4 : decode cL_addRule 4 = .ok (.iload_n 1, 1) := by decide +kernel
theorem dL_addRule_5 : decode cL_addRule 5 = .ok (.iload_n 2, 1) := by decide +kernel
theorem dL_addRule_6 : decode cL_addRule 6 = .ok (.iload_n 3, 1) := by decide +kernel
theorem dL_addRule_7 : decode cL_addRule 7 = .ok (.iload 4, 2) := by decide +kernel
theorem dL_addRule_9 : decode cL_addRule 9 = .ok (.iload 5, 2) := by decide +kernel
theorem dL_addRule_11 : decode cL_addRule 11 = .ok (.iload 6, 2) := by decide +kernel
theorem dL_addRule_13 : decode cL_addRule 13 = .ok (.invokevirtual 30, 3) := by decide +kernel
theorem dL_addRule_16 : decode cL_addRule 16 = .ok (.i2l, 1) := by decide +kernel
theorem dL_addRule_17 : decode cL_addRule 17 = .ok (.lastore, 1) := by decide +kernel
theorem dL_addRule_18 : decode cL_addRule 18 = .ok (.goto 15, 3) := by decide +kernel
theorem dL_addRule_21 : decode cL_addRule 21 = .ok (.astore 8, 2) := by decide +kernel
theorem dL_addRule_23 : decode cL_addRule 23 = .ok (.iconst 1, 1) := by decide +kernel
theorem dL_addRule_24 : decode cL_addRule 24 = .ok (.ireturn, 1) := by decide +kernel
theorem dL_addRule_25 : decode cL_addRule 25 = .ok (.astore 8, 2) := by decide +kernel
theorem dL_addRule_27 : decode cL_addRule 27 = .ok (.iconst 2, 1) := by decide +kernel
theorem dL_addRule_28 : decode cL_addRule 28 = .ok (.ireturn, 1) := by decide +kernel
theorem dL_addRule_29 : decode cL_addRule 29 = .ok (.astore 8, 2) := by decide +kernel
theorem dL_addRule_31 : decode cL_addRule 31 = .ok (.iconst 3, 1) := by decide +kernel
theorem dL_addRule_32 : decode cL_addRule 32 = .ok (.ireturn, 1) := by decide +kernel
theorem dL_addRule_33 : decode cL_addRule 33 = .ok (.iconst 0, 1) := by decide +kernel
theorem dL_addRule_34 : decode cL_addRule 34 = .ok (.ireturn, 1) := by decide +kernel
theorem dL_setShift_0 : decode cL_setShift 0 = .ok (.aload_n 3, 1) := by decide +kernel
theorem dL_setShift_1 : decode cL_setShift 1 = .ok (.iconst 0, 1) := by decide +kernel
theorem dL_setShift_2 : decode cL_setShift 2 = .ok (.aload_n 0, 1) := by decide +kernel
theorem dL_setShift_3 : decode cL_setShift 3 = .ok (.iload_n 1, 1) := by decide +kernel
theorem dL_setShift_4 : decode cL_setShift 4 = .ok (.iload_n 2, 1) := by decide +kernel
theorem dL_setShift_5 : decode cL_setShift 5 = .ok (.invokevirtual 34, 3) := by decide +kernel
theorem dL_setShift_8 : decode cL_setShift 8 = .ok (.i2l, 1) := by decide +kernel
theorem dL_setShift_9 : decode cL_setShift 9 = .ok (.lastore, 1) := by decide +kernel
theorem dL_setShift_10 : decode cL_setShift 10 = .ok (.goto 11, 3) := by decide +kernel
theorem dL_setShift_13 : decode cL_setShift 13 = .ok (.astore 4, 2) := by decide +kernel
theorem dL_setShift_15 : decode cL_setShift 15 = .ok (.iconst 1, 1) := by decide +kernel
theorem dL_setShift_16 : decode cL_setShift 16 = .ok (.ireturn, 1) := by decide +kernel
theorem dL_setShift_17 : decode cL_setShift 17 = .ok (.astore 4, 2) := by decide +kernel
theorem dL_setShift_19 : decode cL_setShift 19 = .ok (.iconst 2, 1) := by decide +kernel
theorem dL_setShift_20 : decode cL_setShift 20 = .ok (.ireturn, 1) := by decide +kernel
theorem dL_setShift_21 : decode cL_setShift 21 = .ok (.iconst 0, 1) := by decide +kernel
theorem dL_setShift_22 : decode cL_setShift 22 = .ok (.ireturn, 1) := by decide +kernel
theorem dL_require_0 : decode cL_require 0 = .ok (.aload_n 3, 1) := by decide +kernel
theorem dL_require_1 : decode cL_require 1 = .ok (.iconst 0, 1) := by decide +kernel
theorem dL_require_2 : decode cL_require 2 = .ok (.aload_n 0, 1) := by decide +kernel
theorem dL_require_3 : decode cL_require 3 = .ok (.iload_n 1, 1) := by decide +kernel
theorem dL_require_4 : decode cL_require 4 = .ok (.iload_n 2, 1) := by decide +kernel
theorem dL_require_5 : decode cL_require 5 = .ok (.invokevirtual 37, 3) := by decide +kernel
theorem dL_require_8 : decode cL_require 8 = .ok (.ifCond .eq 7, 3) := by decide +kernel
theorem dL_require_11 : decode cL_require 11 = .ok (.lconst 1, 1) := by decide +kernel
theorem dL_require_12 : decode cL_require 12 = .ok (.goto 4, 3) := by decide +kernel
theorem dL_require_15 : decode cL_require 15 = .ok (.lconst 0, 1) := by decide +kernel
theorem dL_require_16 : decode cL_require 16 = .ok (.lastore, 1) := by decide +kernel
theorem dL_require_17 : decode cL_require 17 = .ok (.goto 11, 3) := by decide +kernel
theorem dL_require_20 : decode cL_require 20 = .ok (.astore 4, 2) := by decide +kernel
theorem dL_require_22 : decode cL_require 22 = .ok (.iconst 1, 1) := by decide +kernel
theorem dL_require_23 : decode cL_require 23 = .ok (.ireturn, 1) := by decide +kernel
theorem dL_require_24 : decode cL_require 24 = .ok (.astore 4, 2) := by decide +kernel
theorem dL_require_26 : decode cL_require 26 = .ok (.iconst 2, 1) := by decide +kernel
theorem dL_require_27 : decode cL_require 27 = .ok (.ireturn, 1) := by decide +kernel
theorem dL_require_28 : decode cL_require 28 = .ok (.iconst 0, 1) := by decide +kernel
theorem dL_require_29 : decode cL_require 29 = .ok (.ireturn, 1) := by decide +kernel
theorem dL_dueDay_0 : decode cL_dueDay 0 = .ok (.aload_n 3, 1) := by decide +kernel
theorem dL_dueDay_1 : decode cL_dueDay 1 = .ok (.iconst 0, 1) := by decide +kernel
theorem dL_dueDay_2 : decode cL_dueDay 2 = .ok (.aload_n 0, 1) := by decide +kernel
theorem dL_dueDay_3 : decode cL_dueDay 3 = .ok (.iload_n 1, 1) := by decide +kernel
theorem dL_dueDay_4 : decode cL_dueDay 4 = .ok (.iload_n 2, 1) := by decide +kernel
theorem dL_dueDay_5 : decode cL_dueDay 5 = .ok (.invokevirtual 41, 3) := by decide +kernel
theorem dL_dueDay_8 : decode cL_dueDay 8 = .ok (.i2l, 1) := by decide +kernel
theorem dL_dueDay_9 : decode cL_dueDay 9 = .ok (.lastore, 1) := by decide +kernel
theorem dL_dueDay_10 : decode cL_dueDay 10 = .ok (.goto 7, 3) := by decide +kernel
theorem dL_dueDay_13 : decode cL_dueDay 13 = .ok (.astore 4, 2) := by decide +kernel
theorem dL_dueDay_15 : decode cL_dueDay 15 = .ok (.iconst 1, 1) := by decide +kernel
theorem dL_dueDay_16 : decode cL_dueDay 16 = .ok (.ireturn, 1) := by decide +kernel
theorem dL_dueDay_17 : decode cL_dueDay 17 = .ok (.iconst 0, 1) := by decide +kernel
theorem dL_dueDay_18 : decode cL_dueDay 18 = .ok (.ireturn, 1) := by decide +kernel
theorem dL_duties_0 : decode cL_duties 0 = .ok (.aload_n 2, 1) := by decide +kernel
theorem dL_duties_1 : decode cL_duties 1 = .ok (.iconst 0, 1) := by decide +kernel
theorem dL_duties_2 : decode cL_duties 2 = .ok (.aload_n 0, 1) := by decide +kernel
theorem dL_duties_3 : decode cL_duties 3 = .ok (.iload_n 1, 1) := by decide +kernel
theorem dL_duties_4 : decode cL_duties 4 = .ok (.invokevirtual 44, 3) := by decide +kernel
theorem dL_duties_7 : decode cL_duties 7 = .ok (.i2l, 1) := by decide +kernel
theorem dL_duties_8 : decode cL_duties 8 = .ok (.lastore, 1) := by decide +kernel
theorem dL_duties_9 : decode cL_duties 9 = .ok (.goto 6, 3) := by decide +kernel
theorem dL_duties_12 : decode cL_duties 12 = .ok (.astore_n 3, 1) := by decide +kernel
theorem dL_duties_13 : decode cL_duties 13 = .ok (.iconst 1, 1) := by decide +kernel
theorem dL_duties_14 : decode cL_duties 14 = .ok (.ireturn, 1) := by decide +kernel
theorem dL_duties_15 : decode cL_duties 15 = .ok (.iconst 0, 1) := by decide +kernel
theorem dL_duties_16 : decode cL_duties 16 = .ok (.ireturn, 1) := by decide +kernel
theorem dL_nextDue_0 : decode cL_nextDue 0 = .ok (.aload_n 3, 1) := by decide +kernel
theorem dL_nextDue_1 : decode cL_nextDue 1 = .ok (.iconst 0, 1) := by decide +kernel
theorem dL_nextDue_2 : decode cL_nextDue 2 = .ok (.aload_n 0, 1) := by decide +kernel
theorem dL_nextDue_3 : decode cL_nextDue 3 = .ok (.iload_n 1, 1) := by decide +kernel
theorem dL_nextDue_4 : decode cL_nextDue 4 = .ok (.iload_n 2, 1) := by decide +kernel
theorem dL_nextDue_5 : decode cL_nextDue 5 = .ok (.invokevirtual 47, 3) := by decide +kernel
theorem dL_nextDue_8 : decode cL_nextDue 8 = .ok (.i2l, 1) := by decide +kernel
theorem dL_nextDue_9 : decode cL_nextDue 9 = .ok (.lastore, 1) := by decide +kernel
theorem dL_nextDue_10 : decode cL_nextDue 10 = .ok (.goto 7, 3) := by decide +kernel
theorem dL_nextDue_13 : decode cL_nextDue 13 = .ok (.astore 4, 2) := by decide +kernel
theorem dL_nextDue_15 : decode cL_nextDue 15 = .ok (.iconst 1, 1) := by decide +kernel
theorem dL_nextDue_16 : decode cL_nextDue 16 = .ok (.ireturn, 1) := by decide +kernel
theorem dL_nextDue_17 : decode cL_nextDue 17 = .ok (.iconst 0, 1) := by decide +kernel
theorem dL_nextDue_18 : decode cL_nextDue 18 = .ok (.ireturn, 1) := by decide +kernel
theorem dL_nextDueByWalking_0 : decode cL_nextDueByWalking 0 = .ok (.aload_n 3, 1) := by decide +kernel
theorem dL_nextDueByWalking_1 : decode cL_nextDueByWalking 1 = .ok (.iconst 0, 1) := by decide +kernel
theorem dL_nextDueByWalking_2 : decode cL_nextDueByWalking 2 = .ok (.aload_n 0, 1) := by decide +kernel
theorem dL_nextDueByWalking_3 : decode cL_nextDueByWalking 3 = .ok (.iload_n 1, 1) := by decide +kernel
theorem dL_nextDueByWalking_4 : decode cL_nextDueByWalking 4 = .ok (.iload_n 2, 1) := by decide +kernel
theorem dL_nextDueByWalking_5 : decode cL_nextDueByWalking 5 = .ok (.invokevirtual 50, 3) := by decide +kernel
theorem dL_nextDueByWalking_8 : decode cL_nextDueByWalking 8 = .ok (.i2l, 1) := by decide +kernel
theorem dL_nextDueByWalking_9 : decode cL_nextDueByWalking 9 = .ok (.lastore, 1) := by decide +kernel
theorem dL_nextDueByWalking_10 : decode cL_nextDueByWalking 10 = .ok (.goto 7, 3) := by decide +kernel
theorem dL_nextDueByWalking_13 : decode cL_nextDueByWalking 13 = .ok (.astore 4, 2) := by decide +kernel
theorem dL_nextDueByWalking_15 : decode cL_nextDueByWalking 15 = .ok (.iconst 1, 1) := by decide +kernel
theorem dL_nextDueByWalking_16 : decode cL_nextDueByWalking 16 = .ok (.ireturn, 1) := by decide +kernel
theorem dL_nextDueByWalking_17 : decode cL_nextDueByWalking 17 = .ok (.iconst 0, 1) := by decide +kernel
theorem dL_nextDueByWalking_18 : decode cL_nextDueByWalking 18 = .ok (.ireturn, 1) := by decide +kernel
theorem dL_upcoming_0 : decode cL_upcoming 0 = .ok (.aload_n 3, 1) := by decide +kernel
theorem dL_upcoming_1 : decode cL_upcoming 1 = .ok (.iconst 0, 1) := by decide +kernel
theorem dL_upcoming_2 : decode cL_upcoming 2 = .ok (.aload_n 0, 1) := by decide +kernel
theorem dL_upcoming_3 : decode cL_upcoming 3 = .ok (.iload_n 1, 1) := by decide +kernel
theorem dL_upcoming_4 : decode cL_upcoming 4 = .ok (.iload_n 2, 1) := by decide +kernel
theorem dL_upcoming_5 : decode cL_upcoming 5 = .ok (.invokevirtual 53, 3) := by decide +kernel
theorem dL_upcoming_8 : decode cL_upcoming 8 = .ok (.i2l, 1) := by decide +kernel
theorem dL_upcoming_9 : decode cL_upcoming 9 = .ok (.lastore, 1) := by decide +kernel
theorem dL_upcoming_10 : decode cL_upcoming 10 = .ok (.goto 7, 3) := by decide +kernel
theorem dL_upcoming_13 : decode cL_upcoming 13 = .ok (.astore 4, 2) := by decide +kernel
theorem dL_upcoming_15 : decode cL_upcoming 15 = .ok (.iconst 1, 1) := by decide +kernel
theorem dL_upcoming_16 : decode cL_upcoming 16 = .ok (.ireturn, 1) := by decide +kernel
theorem dL_upcoming_17 : decode cL_upcoming 17 = .ok (.iconst 0, 1) := by decide +kernel
theorem dL_upcoming_18 : decode cL_upcoming 18 = .ok (.ireturn, 1) := by decide +kernel
theorem dL_finish_0 : decode cL_finish 0 = .ok (.aload_n 2, 1) := by decide +kernel
theorem dL_finish_1 : decode cL_finish 1 = .ok (.iconst 0, 1) := by decide +kernel
theorem dL_finish_2 : decode cL_finish 2 = .ok (.aload_n 0, 1) := by decide +kernel
theorem dL_finish_3 : decode cL_finish 3 = .ok (.iload_n 1, 1) := by decide +kernel
theorem dL_finish_4 : decode cL_finish 4 = .ok (.invokevirtual 56, 3) := by decide +kernel
theorem dL_finish_7 : decode cL_finish 7 = .ok (.i2l, 1) := by decide +kernel
theorem dL_finish_8 : decode cL_finish 8 = .ok (.lastore, 1) := by decide +kernel
theorem dL_finish_9 : decode cL_finish 9 = .ok (.goto 12, 3) := by decide +kernel
theorem dL_finish_12 : decode cL_finish 12 = .ok (.astore_n 3, 1) := by decide +kernel
theorem dL_finish_13 : decode cL_finish 13 = .ok (.iconst 1, 1) := by decide +kernel
theorem dL_finish_14 : decode cL_finish 14 = .ok (.ireturn, 1) := by decide +kernel
theorem dL_finish_15 : decode cL_finish 15 = .ok (.astore_n 3, 1) := by decide +kernel
theorem dL_finish_16 : decode cL_finish 16 = .ok (.iconst 2, 1) := by decide +kernel
theorem dL_finish_17 : decode cL_finish 17 = .ok (.ireturn, 1) := by decide +kernel
theorem dL_finish_18 : decode cL_finish 18 = .ok (.astore_n 3, 1) := by decide +kernel
theorem dL_finish_19 : decode cL_finish 19 = .ok (.iconst 3, 1) := by decide +kernel
theorem dL_finish_20 : decode cL_finish 20 = .ok (.ireturn, 1) := by decide +kernel
theorem dL_finish_21 : decode cL_finish 21 = .ok (.iconst 0, 1) := by decide +kernel
theorem dL_finish_22 : decode cL_finish 22 = .ok (.ireturn, 1) := by decide +kernel
theorem dL_open_0 : decode cL_open 0 = .ok (.aload_n 2, 1) := by decide +kernel
theorem dL_open_1 : decode cL_open 1 = .ok (.iconst 0, 1) := by decide +kernel
theorem dL_open_2 : decode cL_open 2 = .ok (.aload_n 0, 1) := by decide +kernel
theorem dL_open_3 : decode cL_open 3 = .ok (.iload_n 1, 1) := by decide +kernel
theorem dL_open_4 : decode cL_open 4 = .ok (.invokevirtual 61, 3) := by decide +kernel
theorem dL_open_7 : decode cL_open 7 = .ok (.i2l, 1) := by decide +kernel
theorem dL_open_8 : decode cL_open 8 = .ok (.lastore, 1) := by decide +kernel
theorem dL_open_9 : decode cL_open 9 = .ok (.goto 6, 3) := by decide +kernel
theorem dL_open_12 : decode cL_open 12 = .ok (.astore_n 3, 1) := by decide +kernel
theorem dL_open_13 : decode cL_open 13 = .ok (.iconst 1, 1) := by decide +kernel
theorem dL_open_14 : decode cL_open 14 = .ok (.ireturn, 1) := by decide +kernel
theorem dL_open_15 : decode cL_open 15 = .ok (.iconst 0, 1) := by decide +kernel
theorem dL_open_16 : decode cL_open 16 = .ok (.ireturn, 1) := by decide +kernel
theorem dL_finished_0 : decode cL_finished 0 = .ok (.aload_n 2, 1) := by decide +kernel
theorem dL_finished_1 : decode cL_finished 1 = .ok (.iconst 0, 1) := by decide +kernel
theorem dL_finished_2 : decode cL_finished 2 = .ok (.aload_n 0, 1) := by decide +kernel
theorem dL_finished_3 : decode cL_finished 3 = .ok (.iload_n 1, 1) := by decide +kernel
theorem dL_finished_4 : decode cL_finished 4 = .ok (.invokevirtual 64, 3) := by decide +kernel
theorem dL_finished_7 : decode cL_finished 7 = .ok (.i2l, 1) := by decide +kernel
theorem dL_finished_8 : decode cL_finished 8 = .ok (.lastore, 1) := by decide +kernel
theorem dL_finished_9 : decode cL_finished 9 = .ok (.goto 6, 3) := by decide +kernel
theorem dL_finished_12 : decode cL_finished 12 = .ok (.astore_n 3, 1) := by decide +kernel
theorem dL_finished_13 : decode cL_finished 13 = .ok (.iconst 1, 1) := by decide +kernel
theorem dL_finished_14 : decode cL_finished 14 = .ok (.ireturn, 1) := by decide +kernel
theorem dL_finished_15 : decode cL_finished 15 = .ok (.iconst 0, 1) := by decide +kernel
theorem dL_finished_16 : decode cL_finished 16 = .ok (.ireturn, 1) := by decide +kernel
theorem dL_blockedBy_0 : decode cL_blockedBy 0 = .ok (.aload_n 2, 1) := by decide +kernel
theorem dL_blockedBy_1 : decode cL_blockedBy 1 = .ok (.iconst 0, 1) := by decide +kernel
theorem dL_blockedBy_2 : decode cL_blockedBy 2 = .ok (.aload_n 0, 1) := by decide +kernel
theorem dL_blockedBy_3 : decode cL_blockedBy 3 = .ok (.iload_n 1, 1) := by decide +kernel
theorem dL_blockedBy_4 : decode cL_blockedBy 4 = .ok (.invokevirtual 67, 3) := by decide +kernel
theorem dL_blockedBy_7 : decode cL_blockedBy 7 = .ok (.i2l, 1) := by decide +kernel
theorem dL_blockedBy_8 : decode cL_blockedBy 8 = .ok (.lastore, 1) := by decide +kernel
theorem dL_blockedBy_9 : decode cL_blockedBy 9 = .ok (.goto 6, 3) := by decide +kernel
theorem dL_blockedBy_12 : decode cL_blockedBy 12 = .ok (.astore_n 3, 1) := by decide +kernel
theorem dL_blockedBy_13 : decode cL_blockedBy 13 = .ok (.iconst 1, 1) := by decide +kernel
theorem dL_blockedBy_14 : decode cL_blockedBy 14 = .ok (.ireturn, 1) := by decide +kernel
theorem dL_blockedBy_15 : decode cL_blockedBy 15 = .ok (.iconst 0, 1) := by decide +kernel
theorem dL_blockedBy_16 : decode cL_blockedBy 16 = .ok (.ireturn, 1) := by decide +kernel
theorem dL_order_0 : decode cL_order 0 = .ok (.aload_n 3, 1) := by decide +kernel
theorem dL_order_1 : decode cL_order 1 = .ok (.iconst 0, 1) := by decide +kernel
theorem dL_order_2 : decode cL_order 2 = .ok (.aload_n 0, 1) := by decide +kernel
theorem dL_order_3 : decode cL_order 3 = .ok (.iload_n 1, 1) := by decide +kernel
theorem dL_order_4 : decode cL_order 4 = .ok (.iload_n 2, 1) := by decide +kernel
theorem dL_order_5 : decode cL_order 5 = .ok (.invokevirtual 70, 3) := by decide +kernel
theorem dL_order_8 : decode cL_order 8 = .ok (.i2l, 1) := by decide +kernel
theorem dL_order_9 : decode cL_order 9 = .ok (.lastore, 1) := by decide +kernel
theorem dL_order_10 : decode cL_order 10 = .ok (.goto 7, 3) := by decide +kernel
theorem dL_order_13 : decode cL_order 13 = .ok (.astore 4, 2) := by decide +kernel
theorem dL_order_15 : decode cL_order 15 = .ok (.iconst 1, 1) := by decide +kernel
theorem dL_order_16 : decode cL_order 16 = .ok (.ireturn, 1) := by decide +kernel
theorem dL_order_17 : decode cL_order 17 = .ok (.iconst 0, 1) := by decide +kernel
theorem dL_order_18 : decode cL_order 18 = .ok (.ireturn, 1) := by decide +kernel
theorem dL_isCovered_0 : decode cL_isCovered 0 = .ok (.aload_n 3, 1) := by decide +kernel
theorem dL_isCovered_1 : decode cL_isCovered 1 = .ok (.iconst 0, 1) := by decide +kernel
theorem dL_isCovered_2 : decode cL_isCovered 2 = .ok (.aload_n 0, 1) := by decide +kernel
theorem dL_isCovered_3 : decode cL_isCovered 3 = .ok (.iload_n 1, 1) := by decide +kernel
theorem dL_isCovered_4 : decode cL_isCovered 4 = .ok (.iload_n 2, 1) := by decide +kernel
theorem dL_isCovered_5 : decode cL_isCovered 5 = .ok (.invokevirtual 73, 3) := by decide +kernel
theorem dL_isCovered_8 : decode cL_isCovered 8 = .ok (.ifCond .eq 7, 3) := by decide +kernel
theorem dL_isCovered_11 : decode cL_isCovered 11 = .ok (.lconst 1, 1) := by decide +kernel
theorem dL_isCovered_12 : decode cL_isCovered 12 = .ok (.goto 4, 3) := by decide +kernel
theorem dL_isCovered_15 : decode cL_isCovered 15 = .ok (.lconst 0, 1) := by decide +kernel
theorem dL_isCovered_16 : decode cL_isCovered 16 = .ok (.lastore, 1) := by decide +kernel
theorem dL_isCovered_17 : decode cL_isCovered 17 = .ok (.goto 7, 3) := by decide +kernel
theorem dL_isCovered_20 : decode cL_isCovered 20 = .ok (.astore 4, 2) := by decide +kernel
theorem dL_isCovered_22 : decode cL_isCovered 22 = .ok (.iconst 1, 1) := by decide +kernel
theorem dL_isCovered_23 : decode cL_isCovered 23 = .ok (.ireturn, 1) := by decide +kernel
theorem dL_isCovered_24 : decode cL_isCovered 24 = .ok (.iconst 0, 1) := by decide +kernel
theorem dL_isCovered_25 : decode cL_isCovered 25 = .ok (.ireturn, 1) := by decide +kernel
theorem dL_lasts_0 : decode cL_lasts 0 = .ok (.aload_n 2, 1) := by decide +kernel
theorem dL_lasts_1 : decode cL_lasts 1 = .ok (.iconst 0, 1) := by decide +kernel
theorem dL_lasts_2 : decode cL_lasts 2 = .ok (.aload_n 0, 1) := by decide +kernel
theorem dL_lasts_3 : decode cL_lasts 3 = .ok (.iload_n 1, 1) := by decide +kernel
theorem dL_lasts_4 : decode cL_lasts 4 = .ok (.invokevirtual 76, 3) := by decide +kernel
theorem dL_lasts_7 : decode cL_lasts 7 = .ok (.i2l, 1) := by decide +kernel
theorem dL_lasts_8 : decode cL_lasts 8 = .ok (.lastore, 1) := by decide +kernel
theorem dL_lasts_9 : decode cL_lasts 9 = .ok (.goto 9, 3) := by decide +kernel
theorem dL_lasts_12 : decode cL_lasts 12 = .ok (.astore_n 3, 1) := by decide +kernel
theorem dL_lasts_13 : decode cL_lasts 13 = .ok (.iconst 1, 1) := by decide +kernel
theorem dL_lasts_14 : decode cL_lasts 14 = .ok (.ireturn, 1) := by decide +kernel
theorem dL_lasts_15 : decode cL_lasts 15 = .ok (.astore_n 3, 1) := by decide +kernel
theorem dL_lasts_16 : decode cL_lasts 16 = .ok (.iconst 2, 1) := by decide +kernel
theorem dL_lasts_17 : decode cL_lasts 17 = .ok (.ireturn, 1) := by decide +kernel
theorem dL_lasts_18 : decode cL_lasts 18 = .ok (.iconst 0, 1) := by decide +kernel
theorem dL_lasts_19 : decode cL_lasts 19 = .ok (.ireturn, 1) := by decide +kernel
theorem dL_load_0 : decode cL_load 0 = .ok (.aload_n 2, 1) := by decide +kernel
theorem dL_load_1 : decode cL_load 1 = .ok (.iconst 0, 1) := by decide +kernel
theorem dL_load_2 : decode cL_load 2 = .ok (.aload_n 0, 1) := by decide +kernel
theorem dL_load_3 : decode cL_load 3 = .ok (.iload_n 1, 1) := by decide +kernel
theorem dL_load_4 : decode cL_load 4 = .ok (.invokevirtual 79, 3) := by decide +kernel
theorem dL_load_7 : decode cL_load 7 = .ok (.i2l, 1) := by decide +kernel
theorem dL_load_8 : decode cL_load 8 = .ok (.lastore, 1) := by decide +kernel
theorem dL_load_9 : decode cL_load 9 = .ok (.goto 6, 3) := by decide +kernel
theorem dL_load_12 : decode cL_load 12 = .ok (.astore_n 3, 1) := by decide +kernel
theorem dL_load_13 : decode cL_load 13 = .ok (.iconst 1, 1) := by decide +kernel
theorem dL_load_14 : decode cL_load 14 = .ok (.ireturn, 1) := by decide +kernel
theorem dL_load_15 : decode cL_load 15 = .ok (.iconst 0, 1) := by decide +kernel
theorem dL_load_16 : decode cL_load 16 = .ok (.ireturn, 1) := by decide +kernel
theorem dL_heaviest_0 : decode cL_heaviest 0 = .ok (.aload_n 3, 1) := by decide +kernel
theorem dL_heaviest_1 : decode cL_heaviest 1 = .ok (.iconst 0, 1) := by decide +kernel
theorem dL_heaviest_2 : decode cL_heaviest 2 = .ok (.aload_n 0, 1) := by decide +kernel
theorem dL_heaviest_3 : decode cL_heaviest 3 = .ok (.iload_n 1, 1) := by decide +kernel
theorem dL_heaviest_4 : decode cL_heaviest 4 = .ok (.iload_n 2, 1) := by decide +kernel
theorem dL_heaviest_5 : decode cL_heaviest 5 = .ok (.invokevirtual 82, 3) := by decide +kernel
theorem dL_heaviest_8 : decode cL_heaviest 8 = .ok (.i2l, 1) := by decide +kernel
theorem dL_heaviest_9 : decode cL_heaviest 9 = .ok (.lastore, 1) := by decide +kernel
theorem dL_heaviest_10 : decode cL_heaviest 10 = .ok (.goto 11, 3) := by decide +kernel
theorem dL_heaviest_13 : decode cL_heaviest 13 = .ok (.astore 4, 2) := by decide +kernel
theorem dL_heaviest_15 : decode cL_heaviest 15 = .ok (.iconst 1, 1) := by decide +kernel
theorem dL_heaviest_16 : decode cL_heaviest 16 = .ok (.ireturn, 1) := by decide +kernel
theorem dL_heaviest_17 : decode cL_heaviest 17 = .ok (.astore 4, 2) := by decide +kernel
theorem dL_heaviest_19 : decode cL_heaviest 19 = .ok (.iconst 2, 1) := by decide +kernel
theorem dL_heaviest_20 : decode cL_heaviest 20 = .ok (.ireturn, 1) := by decide +kernel
theorem dL_heaviest_21 : decode cL_heaviest 21 = .ok (.iconst 0, 1) := by decide +kernel
theorem dL_heaviest_22 : decode cL_heaviest 22 = .ok (.ireturn, 1) := by decide +kernel
theorem dL_level_0 : decode cL_level 0 = .ok (.aload 4, 2) := by decide +kernel
theorem dL_level_2 : decode cL_level 2 = .ok (.iconst 0, 1) := by decide +kernel
theorem dL_level_3 : decode cL_level 3 = .ok (.aload_n 0, 1) := by decide +kernel
theorem dL_level_4 : decode cL_level 4 = .ok (.iload_n 1, 1) := by decide +kernel
theorem dL_level_5 : decode cL_level 5 = .ok (.iload_n 2, 1) := by decide +kernel
theorem dL_level_6 : decode cL_level 6 = .ok (.iload_n 3, 1) := by decide +kernel
theorem dL_level_7 : decode cL_level 7 = .ok (.invokevirtual 85, 3) := by decide +kernel
theorem dL_level_10 : decode cL_level 10 = .ok (.i2l, 1) := by decide +kernel
theorem dL_level_11 : decode cL_level 11 = .ok (.lastore, 1) := by decide +kernel
theorem dL_level_12 : decode cL_level 12 = .ok (.goto 11, 3) := by decide +kernel
theorem dL_level_15 : decode cL_level 15 = .ok (.astore 5, 2) := by decide +kernel
theorem dL_level_17 : decode cL_level 17 = .ok (.iconst 1, 1) := by decide +kernel
theorem dL_level_18 : decode cL_level 18 = .ok (.ireturn, 1) := by decide +kernel
theorem dL_level_19 : decode cL_level 19 = .ok (.astore 5, 2) := by decide +kernel
theorem dL_level_21 : decode cL_level 21 = .ok (.iconst 2, 1) := by decide +kernel
theorem dL_level_22 : decode cL_level 22 = .ok (.ireturn, 1) := by decide +kernel
theorem dL_level_23 : decode cL_level 23 = .ok (.iconst 0, 1) := by decide +kernel
theorem dL_level_24 : decode cL_level 24 = .ok (.ireturn, 1) := by decide +kernel
theorem dL_levelled_0 : decode cL_levelled 0 = .ok (.aload 5, 2) := by decide +kernel
theorem dL_levelled_2 : decode cL_levelled 2 = .ok (.iconst 0, 1) := by decide +kernel
theorem dL_levelled_3 : decode cL_levelled 3 = .ok (.aload_n 0, 1) := by decide +kernel
theorem dL_levelled_4 : decode cL_levelled 4 = .ok (.iload_n 1, 1) := by decide +kernel
theorem dL_levelled_5 : decode cL_levelled 5 = .ok (.iload_n 2, 1) := by decide +kernel
theorem dL_levelled_6 : decode cL_levelled 6 = .ok (.iload_n 3, 1) := by decide +kernel
theorem dL_levelled_7 : decode cL_levelled 7 = .ok (.iload 4, 2) := by decide +kernel
theorem dL_levelled_9 : decode cL_levelled 9 = .ok (.invokevirtual 89, 3) := by decide +kernel
theorem dL_levelled_12 : decode cL_levelled 12 = .ok (.i2l, 1) := by decide +kernel
theorem dL_levelled_13 : decode cL_levelled 13 = .ok (.lastore, 1) := by decide +kernel
theorem dL_levelled_14 : decode cL_levelled 14 = .ok (.goto 11, 3) := by decide +kernel
theorem dL_levelled_17 : decode cL_levelled 17 = .ok (.astore 6, 2) := by decide +kernel
theorem dL_levelled_19 : decode cL_levelled 19 = .ok (.iconst 1, 1) := by decide +kernel
theorem dL_levelled_20 : decode cL_levelled 20 = .ok (.ireturn, 1) := by decide +kernel
theorem dL_levelled_21 : decode cL_levelled 21 = .ok (.astore 6, 2) := by decide +kernel
theorem dL_levelled_23 : decode cL_levelled 23 = .ok (.iconst 2, 1) := by decide +kernel
theorem dL_levelled_24 : decode cL_levelled 24 = .ok (.ireturn, 1) := by decide +kernel
theorem dL_levelled_25 : decode cL_levelled 25 = .ok (.iconst 0, 1) := by decide +kernel
theorem dL_levelled_26 : decode cL_levelled 26 = .ok (.ireturn, 1) := by decide +kernel
