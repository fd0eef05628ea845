theorem kI_L_93 : LkI RL 93 yX2_init cX2_init 1 0 := ⟨ml_L_93, im_X2_init, in_X2, co_X2_init, rfl, by decide +kernel⟩
theorem kI_X2_11 : LkI RX2 11 yX0_init cX0_init 2 0 := ⟨ml_X2_11, im_X0_init, in_X0, co_X0_init, rfl, by decide +kernel⟩
theorem kV_X0_22 : LkV RX0 22 RX0 yX0_numberMonthOf cX0_numberMonthOf 6 none 1 := ⟨ml_X0_22, im_X0_numberMonthOf, se_X0_numberMonthOf, in_X0, co_X0_numberMonthOf, by decide +kernel⟩
theorem kV_X0_30 : LkV RX0 30 RX0 yX0_works cX0_works 2 (some .boolean) 1 := ⟨ml_X0_30, im_X0_works, se_X0_works, in_X0, co_X0_works, by decide +kernel⟩
theorem kI_X2_18 : LkI RX2 18 yJx4a65c_init_da8c8 cJx4a65c_init_da8c8 1 0 := ⟨ml_X2_18, im_Jx4a65c_init_da8c8, in_Jx4a65c, co_Jx4a65c_init_da8c8, rfl, by decide +kernel⟩
theorem kI_Jx4a65c_1 : LkI RJx4a65c 1 yJxc12de_init_da8c8 cJxc12de_init_da8c8 1 0 := ⟨ml_Jx4a65c_1, im_Jxc12de_init_da8c8, in_Jxc12de, co_Jxc12de_init_da8c8, rfl, by decide +kernel⟩
theorem kI_Jxc12de_1 : LkI RJxc12de 1 yJxa1e45_init_da8c8 cJxa1e45_init_da8c8 1 0 := ⟨ml_Jxc12de_1, im_Jxa1e45_init_da8c8, in_Jxa1e45, co_Jxa1e45_init_da8c8, rfl, by decide +kernel⟩
theorem kV_L_117 : LkV RL 117 RX2 yX2_today cX2_today 1 (some .int) 0 := ⟨ml_L_117, im_X2_today, se_X2_today, in_X2, co_X2_today, by decide +kernel⟩
theorem kV_L_131 : LkV RL 131 RX2 yX2_rules cX2_rules 1 (some .int) 0 := ⟨ml_L_131, im_X2_rules, se_X2_rules, in_X2, co_X2_rules, by decide +kernel⟩
theorem kV_X2_39 : LkV RX2 39 RJx4a65c yJx4a65c_size_8abf5 cJx4a65c_size_8abf5 1 (some .int) 0 := ⟨ml_X2_39, im_Jx4a65c_size_8abf5, se_Jx4a65c_size_8abf5, in_Jx4a65c, co_Jx4a65c_size_8abf5, by decide +kernel⟩
theorem kV_L_162 : LkV RL 162 RX2 yX2_overdue cX2_overdue 4 (some .int) 0 := ⟨ml_L_162, im_X2_overdue, se_X2_overdue, in_X2, co_X2_overdue, by decide +kernel⟩
theorem kV_X2_43 : LkV RX2 43 RJx4a65c yJx4a65c_get_915e3 cJx4a65c_get_915e3 2 (some (.object "java/lang/Object")) 1 := ⟨ml_X2_43, im_Jx4a65c_get_915e3, se_Jx4a65c_get_915e3, in_Jx4a65c, co_Jx4a65c_get_915e3, by decide +kernel⟩
theorem kS_Jx4a65c_118 : LkS RJx4a65c 118 yJ15_checkIndex_7cf53 cJ15_checkIndex_7cf53 2 (some .int) 2 := ⟨ml_Jx4a65c_118, st_J15_checkIndex_7cf53, in_J15, co_J15_checkIndex_7cf53, by decide +kernel⟩
theorem kS_J15_105 : LkS RJ15 105 yJ3_checkIndex_8e157 cJ3_checkIndex_8e157 3 (some .int) 3 := ⟨ml_J15_105, st_J3_checkIndex_8e157, in_J3, co_J3_checkIndex_8e157, by decide +kernel⟩
theorem kV_Jx4a65c_123 : LkV RJx4a65c 123 RJx4a65c yJx4a65c_elementData_915e3 cJx4a65c_elementData_915e3 2 (some (.object "java/lang/Object")) 1 := ⟨ml_Jx4a65c_123, im_Jx4a65c_elementData_915e3, se_Jx4a65c_elementData_915e3, in_Jx4a65c, co_Jx4a65c_elementData_915e3, by decide +kernel⟩
theorem kV_X2_117 : LkV RX2 117 RX1 yX1_countDueBefore cX1_countDueBefore 4 (some .int) 1 := ⟨ml_X2_117, im_X1_countDueBefore, se_X1_countDueBefore, in_X1, co_X1_countDueBefore, by decide +kernel⟩
theorem kV_X1_62 : LkV RX1 62 RX1 yX1_isDueOn cX1_isDueOn 2 (some .boolean) 1 := ⟨ml_X1_62, im_X1_isDueOn, se_X1_isDueOn, in_X1, co_X1_isDueOn, by decide +kernel⟩
theorem kS_X2_153 : LkS RX2 153 yJ9_max_7cf53 cJ9_max_7cf53 2 (some .int) 2 := ⟨ml_X2_153, st_J9_max_7cf53, in_J9, co_J9_max_7cf53, by decide +kernel⟩
theorem kV_L_7 : LkV RL 7 RX2 yX2_holiday cX2_holiday 4 (some .boolean) 1 := ⟨ml_L_7, im_X2_holiday, se_X2_holiday, in_X2, co_X2_holiday, by decide +kernel⟩
theorem kS_X2_31 : LkS RX2 31 yX2_checkDay cX2_checkDay 1 none 1 := ⟨ml_X2_31, st_X2_checkDay, in_X2, co_X2_checkDay, by decide +kernel⟩
theorem kS_X2_181 : LkS RX2 181 yX2_isDay cX2_isDay 1 (some .boolean) 1 := ⟨ml_X2_181, st_X2_isDay, in_X2, co_X2_isDay, by decide +kernel⟩
theorem kV_X2_35 : LkV RX2 35 RX0 yX0_toggleHoliday cX0_toggleHoliday 2 (some .boolean) 1 := ⟨ml_X2_35, im_X0_toggleHoliday, se_X0_toggleHoliday, in_X0, co_X0_toggleHoliday, by decide +kernel⟩
theorem kV_X2_49 : LkV RX2 49 RX1 yX1_layDueDays cX1_layDueDays 6 none 1 := ⟨ml_X2_49, im_X1_layDueDays, se_X1_layDueDays, in_X1, co_X1_layDueDays, by decide +kernel⟩
theorem kV_X1_49 : LkV RX1 49 RX0 yX0_works cX0_works 2 (some .boolean) 1 := ⟨ml_X1_49, im_X0_works, se_X0_works, in_X0, co_X0_works, by decide +kernel⟩
theorem kV_X1_55 : LkV RX1 55 RX1 yX1_isNominal cX1_isNominal 3 (some .boolean) 2 := ⟨ml_X1_55, im_X1_isNominal, se_X1_isNominal, in_X1, co_X1_isNominal, by decide +kernel⟩
theorem kV_X1_72 : LkV RX1 72 RX0 yX0_numberFromStart cX0_numberFromStart 2 (some .int) 1 := ⟨ml_X1_72, im_X0_numberFromStart, se_X0_numberFromStart, in_X0, co_X0_numberFromStart, by decide +kernel⟩
theorem kV_X1_75 : LkV RX1 75 RX0 yX0_numberFromEnd cX0_numberFromEnd 2 (some .int) 1 := ⟨ml_X1_75, im_X0_numberFromEnd, se_X0_numberFromEnd, in_X0, co_X0_numberFromEnd, by decide +kernel⟩
theorem kV_L_15 : LkV RL 15 RX2 yX2_isWorking cX2_isWorking 2 (some .boolean) 1 := ⟨ml_L_15, im_X2_isWorking, se_X2_isWorking, in_X2, co_X2_isWorking, by decide +kernel⟩
theorem kV_X2_53 : LkV RX2 53 RX0 yX0_works cX0_works 2 (some .boolean) 1 := ⟨ml_X2_53, im_X0_works, se_X0_works, in_X0, co_X0_works, by decide +kernel⟩
theorem kV_L_18 : LkV RL 18 RX2 yX2_workingDays cX2_workingDays 5 (some .int) 2 := ⟨ml_L_18, im_X2_workingDays, se_X2_workingDays, in_X2, co_X2_workingDays, by decide +kernel⟩
theorem kS_X2_56 : LkS RX2 56 yX2_checkSpan cX2_checkSpan 2 none 2 := ⟨ml_X2_56, st_X2_checkSpan, in_X2, co_X2_checkSpan, by decide +kernel⟩
theorem kV_L_24 : LkV RL 24 RX2 yX2_pass cX2_pass 2 (some .int) 1 := ⟨ml_L_24, im_X2_pass, se_X2_pass, in_X2, co_X2_pass, by decide +kernel⟩
theorem kS_X2_60 : LkS RX2 60 yX2_checkRange cX2_checkRange 3 none 3 := ⟨ml_X2_60, st_X2_checkRange, in_X2, co_X2_checkRange, by decide +kernel⟩
theorem kV_L_30 : LkV RL 30 RX2 yX2_addRule cX2_addRule 8 (some .int) 6 := ⟨ml_L_30, im_X2_addRule, se_X2_addRule, in_X2, co_X2_addRule, by decide +kernel⟩
theorem kS_X2_71 : LkS RX2 71 yX2_checkKind cX2_checkKind 2 none 2 := ⟨ml_X2_71, st_X2_checkKind, in_X2, co_X2_checkKind, by decide +kernel⟩
theorem kS_X2_74 : LkS RX2 74 yX2_checkShift cX2_checkShift 1 none 1 := ⟨ml_X2_74, st_X2_checkShift, in_X2, co_X2_checkShift, by decide +kernel⟩
theorem kI_X2_79 : LkI RX2 79 yX1_init cX1_init 7 6 := ⟨ml_X2_79, im_X1_init, in_X1, co_X1_init, rfl, by decide +kernel⟩
theorem kV_X2_82 : LkV RX2 82 RJx4a65c yJx4a65c_add_9ea2d cJx4a65c_add_9ea2d 2 (some .boolean) 1 := ⟨ml_X2_82, im_Jx4a65c_add_9ea2d, se_Jx4a65c_add_9ea2d, in_Jx4a65c, co_Jx4a65c_add_9ea2d, by decide +kernel⟩
theorem kV_Jx4a65c_131 : LkV RJx4a65c 131 RJx4a65c yJx4a65c_add_72be8 cJx4a65c_add_72be8 4 none 3 := ⟨ml_Jx4a65c_131, im_Jx4a65c_add_72be8, se_Jx4a65c_add_72be8, in_Jx4a65c, co_Jx4a65c_add_72be8, by decide +kernel⟩
theorem kV_Jx4a65c_129 : LkV RJx4a65c 129 RJx4a65c yJx4a65c_grow_d5877 cJx4a65c_grow_d5877 1 (some (.array (.object "java/lang/Object"))) 0 := ⟨ml_Jx4a65c_129, im_Jx4a65c_grow_d5877, se_Jx4a65c_grow_d5877, in_Jx4a65c, co_Jx4a65c_grow_d5877, by decide +kernel⟩
theorem kV_Jx4a65c_69 : LkV RJx4a65c 69 RJx4a65c yJx4a65c_grow_92f84 cJx4a65c_grow_92f84 4 (some (.array (.object "java/lang/Object"))) 1 := ⟨ml_Jx4a65c_69, im_Jx4a65c_grow_92f84, se_Jx4a65c_grow_92f84, in_Jx4a65c, co_Jx4a65c_grow_92f84, by decide +kernel⟩
theorem kS_Jx4a65c_73 : LkS RJx4a65c 73 yJ8_newLength_cabcc cJ8_newLength_cabcc 4 (some .int) 3 := ⟨ml_Jx4a65c_73, st_J8_newLength_cabcc, in_J8, co_J8_newLength_cabcc, by decide +kernel⟩
theorem kS_J8_194 : LkS RJ8 194 yJ9_max_7cf53 cJ9_max_7cf53 2 (some .int) 2 := ⟨ml_J8_194, st_J9_max_7cf53, in_J9, co_J9_max_7cf53, by decide +kernel⟩
theorem kS_J8_201 : LkS RJ8 201 yJ8_hugeLength_7cf53 cJ8_hugeLength_7cf53 3 (some .int) 2 := ⟨ml_J8_201, st_J8_hugeLength_7cf53, in_J8, co_J8_hugeLength_7cf53, by decide +kernel⟩
theorem kS_Jx4a65c_66 : LkS RJx4a65c 66 yJ7_copyOf_1904c cJ7_copyOf_1904c 2 (some (.array (.object "java/lang/Object"))) 2 := ⟨ml_Jx4a65c_66, st_J7_copyOf_1904c, in_J7, co_J7_copyOf_1904c, by decide +kernel⟩
theorem kS_J7_300 : LkS RJ7 300 yJ7_copyOf_6403c cJ7_copyOf_6403c 4 (some (.array (.object "java/lang/Object"))) 3 := ⟨ml_J7_300, st_J7_copyOf_6403c, in_J7, co_J7_copyOf_6403c, by decide +kernel⟩
theorem kS_J7_304 : LkS RJ7 304 yJ9_min_7cf53 cJ9_min_7cf53 2 (some .int) 2 := ⟨ml_J7_304, st_J9_min_7cf53, in_J9, co_J9_min_7cf53, by decide +kernel⟩
theorem kS_Jx4a65c_79 : LkS RJx4a65c 79 yJ9_max_7cf53 cJ9_max_7cf53 2 (some .int) 2 := ⟨ml_Jx4a65c_79, st_J9_max_7cf53, in_J9, co_J9_max_7cf53, by decide +kernel⟩
theorem kV_L_34 : LkV RL 34 RX2 yX2_setShift cX2_setShift 5 (some .int) 2 := ⟨ml_L_34, im_X2_setShift, se_X2_setShift, in_X2, co_X2_setShift, by decide +kernel⟩
theorem kV_X2_86 : LkV RX2 86 RX2 yX2_ruleAt cX2_ruleAt 2 (some (.object "Obligary$Rule")) 1 := ⟨ml_X2_86, im_X2_ruleAt, se_X2_ruleAt, in_X2, co_X2_ruleAt, by decide +kernel⟩
theorem kV_L_37 : LkV RL 37 RX2 yX2_require cX2_require 5 (some .boolean) 2 := ⟨ml_L_37, im_X2_require, se_X2_require, in_X2, co_X2_require, by decide +kernel⟩
theorem kV_X2_93 : LkV RX2 93 RX1 yX1_needs cX1_needs 2 (some .boolean) 1 := ⟨ml_X2_93, im_X1_needs, se_X1_needs, in_X1, co_X1_needs, by decide +kernel⟩
theorem kV_X2_98 : LkV RX2 98 RX1 yX1_requires cX1_requires 2 (some .boolean) 1 := ⟨ml_X2_98, im_X1_requires, se_X1_requires, in_X1, co_X1_requires, by decide +kernel⟩
theorem kV_X2_107 : LkV RX2 107 RX2 yX2_spreadNeeds cX2_spreadNeeds 5 none 2 := ⟨ml_X2_107, im_X2_spreadNeeds, se_X2_spreadNeeds, in_X2, co_X2_spreadNeeds, by decide +kernel⟩
theorem kV_L_41 : LkV RL 41 RX2 yX2_dueDay cX2_dueDay 4 (some .int) 2 := ⟨ml_L_41, im_X2_dueDay, se_X2_dueDay, in_X2, co_X2_dueDay, by decide +kernel⟩
theorem kS_X2_110 : LkS RX2 110 yX2_checkPlace cX2_checkPlace 1 none 1 := ⟨ml_X2_110, st_X2_checkPlace, in_X2, co_X2_checkPlace, by decide +kernel⟩
theorem kV_X2_113 : LkV RX2 113 RX1 yX1_dayOfDuty cX1_dayOfDuty 4 (some .int) 1 := ⟨ml_X2_113, im_X1_dayOfDuty, se_X1_dayOfDuty, in_X1, co_X1_dayOfDuty, by decide +kernel⟩
theorem kV_L_44 : LkV RL 44 RX2 yX2_duties cX2_duties 2 (some .int) 1 := ⟨ml_L_44, im_X2_duties, se_X2_duties, in_X2, co_X2_duties, by decide +kernel⟩
theorem kV_L_47 : LkV RL 47 RX2 yX2_nextDue cX2_nextDue 4 (some .int) 2 := ⟨ml_L_47, im_X2_nextDue, se_X2_nextDue, in_X2, co_X2_nextDue, by decide +kernel⟩
theorem kV_X2_120 : LkV RX2 120 RX1 yX1_firstDueFrom cX1_firstDueFrom 3 (some .int) 1 := ⟨ml_X2_120, im_X1_firstDueFrom, se_X1_firstDueFrom, in_X1, co_X1_firstDueFrom, by decide +kernel⟩
theorem kV_L_50 : LkV RL 50 RX2 yX2_nextDueByWalking cX2_nextDueByWalking 4 (some .int) 2 := ⟨ml_L_50, im_X2_nextDueByWalking, se_X2_nextDueByWalking, in_X2, co_X2_nextDueByWalking, by decide +kernel⟩
theorem kV_X2_123 : LkV RX2 123 RX1 yX1_walkToDue cX1_walkToDue 4 (some .int) 2 := ⟨ml_X2_123, im_X1_walkToDue, se_X1_walkToDue, in_X1, co_X1_walkToDue, by decide +kernel⟩
theorem kV_X1_69 : LkV RX1 69 RX1 yX1_isMovedTo cX1_isMovedTo 5 (some .boolean) 2 := ⟨ml_X1_69, im_X1_isMovedTo, se_X1_isMovedTo, in_X1, co_X1_isMovedTo, by decide +kernel⟩
theorem kV_L_53 : LkV RL 53 RX2 yX2_upcoming cX2_upcoming 6 (some .int) 2 := ⟨ml_L_53, im_X2_upcoming, se_X2_upcoming, in_X2, co_X2_upcoming, by decide +kernel⟩
theorem kV_X2_127 : LkV RX2 127 RX1 yX1_isDueOn cX1_isDueOn 2 (some .boolean) 1 := ⟨ml_X2_127, im_X1_isDueOn, se_X1_isDueOn, in_X1, co_X1_isDueOn, by decide +kernel⟩
theorem kV_L_56 : LkV RL 56 RX2 yX2_finish cX2_finish 4 (some .int) 1 := ⟨ml_L_56, im_X2_finish, se_X2_finish, in_X2, co_X2_finish, by decide +kernel⟩
theorem kV_X2_130 : LkV RX2 130 RX1 yX1_openDay cX1_openDay 1 (some .int) 0 := ⟨ml_X2_130, im_X1_openDay, se_X1_openDay, in_X1, co_X1_openDay, by decide +kernel⟩
theorem kV_X1_65 : LkV RX1 65 RX1 yX1_dayOfDuty cX1_dayOfDuty 4 (some .int) 1 := ⟨ml_X1_65, im_X1_dayOfDuty, se_X1_dayOfDuty, in_X1, co_X1_dayOfDuty, by decide +kernel⟩
theorem kV_X2_138 : LkV RX2 138 RX2 yX2_foreseeOpenDuties cX2_foreseeOpenDuties 3 none 0 := ⟨ml_X2_138, im_X2_foreseeOpenDuties, se_X2_foreseeOpenDuties, in_X2, co_X2_foreseeOpenDuties, by decide +kernel⟩
theorem kV_X2_141 : LkV RX2 141 RX2 yX2_leastBlocker cX2_leastBlocker 5 (some .int) 1 := ⟨ml_X2_141, im_X2_leastBlocker, se_X2_leastBlocker, in_X2, co_X2_leastBlocker, by decide +kernel⟩
theorem kV_L_61 : LkV RL 61 RX2 yX2_open cX2_open 2 (some .int) 1 := ⟨ml_L_61, im_X2_open, se_X2_open, in_X2, co_X2_open, by decide +kernel⟩
theorem kV_L_64 : LkV RL 64 RX2 yX2_finished cX2_finished 2 (some .int) 1 := ⟨ml_L_64, im_X2_finished, se_X2_finished, in_X2, co_X2_finished, by decide +kernel⟩
theorem kV_L_67 : LkV RL 67 RX2 yX2_blockedBy cX2_blockedBy 3 (some .int) 1 := ⟨ml_L_67, im_X2_blockedBy, se_X2_blockedBy, in_X2, co_X2_blockedBy, by decide +kernel⟩
theorem kV_L_70 : LkV RL 70 RX2 yX2_order cX2_order 6 (some .int) 2 := ⟨ml_L_70, im_X2_order, se_X2_order, in_X2, co_X2_order, by decide +kernel⟩
theorem kV_X2_159 : LkV RX2 159 RX2 yX2_nextInOrder cX2_nextInOrder 7 (some .int) 1 := ⟨ml_X2_159, im_X2_nextInOrder, se_X2_nextInOrder, in_X2, co_X2_nextInOrder, by decide +kernel⟩
theorem kV_L_73 : LkV RL 73 RX2 yX2_isCovered cX2_isCovered 4 (some .boolean) 2 := ⟨ml_L_73, im_X2_isCovered, se_X2_isCovered, in_X2, co_X2_isCovered, by decide +kernel⟩
theorem kV_X2_165 : LkV RX2 165 RX1 yX1_hasEvidence cX1_hasEvidence 1 (some .boolean) 0 := ⟨ml_X2_165, im_X1_hasEvidence, se_X1_hasEvidence, in_X1, co_X1_hasEvidence, by decide +kernel⟩
theorem kV_X2_169 : LkV RX2 169 RX1 yX1_evidenceUntil cX1_evidenceUntil 1 (some .int) 0 := ⟨ml_X2_169, im_X1_evidenceUntil, se_X1_evidenceUntil, in_X1, co_X1_evidenceUntil, by decide +kernel⟩
theorem kV_L_76 : LkV RL 76 RX2 yX2_lasts cX2_lasts 3 (some .int) 1 := ⟨ml_L_76, im_X2_lasts, se_X2_lasts, in_X2, co_X2_lasts, by decide +kernel⟩
theorem kV_L_79 : LkV RL 79 RX2 yX2_load cX2_load 2 (some .int) 1 := ⟨ml_L_79, im_X2_load, se_X2_load, in_X2, co_X2_load, by decide +kernel⟩
theorem kV_X2_174 : LkV RX2 174 RX2 yX2_effortsDueOn cX2_effortsDueOn 5 (some .int) 1 := ⟨ml_X2_174, im_X2_effortsDueOn, se_X2_effortsDueOn, in_X2, co_X2_effortsDueOn, by decide +kernel⟩
theorem kV_L_82 : LkV RL 82 RX2 yX2_heaviest cX2_heaviest 7 (some .int) 2 := ⟨ml_L_82, im_X2_heaviest, se_X2_heaviest, in_X2, co_X2_heaviest, by decide +kernel⟩
theorem kV_L_85 : LkV RL 85 RX2 yX2_level cX2_level 4 (some .int) 3 := ⟨ml_L_85, im_X2_level, se_X2_level, in_X2, co_X2_level, by decide +kernel⟩
theorem kV_X2_177 : LkV RX2 177 RX2 yX2_layEfforts cX2_layEfforts 8 (some .int) 3 := ⟨ml_X2_177, im_X2_layEfforts, se_X2_layEfforts, in_X2, co_X2_layEfforts, by decide +kernel⟩
theorem kS_X2_203 : LkS RX2 203 yJ7_fill_53178 cJ7_fill_53178 4 none 2 := ⟨ml_X2_203, st_J7_fill_53178, in_J7, co_J7_fill_53178, by decide +kernel⟩
theorem kV_X2_209 : LkV RX2 209 RX2 yX2_layEffort cX2_layEffort 6 (some .boolean) 4 := ⟨ml_X2_209, im_X2_layEffort, se_X2_layEffort, in_X2, co_X2_layEffort, by decide +kernel⟩
theorem kV_L_89 : LkV RL 89 RX2 yX2_levelled cX2_levelled 5 (some .int) 4 := ⟨ml_L_89, im_X2_levelled, se_X2_levelled, in_X2, co_X2_levelled, by decide +kernel⟩
theorem kI_L_96 : LkI RL 96 yX3_init cX3_init 2 0 := ⟨ml_L_96, im_X3_init, in_X3, co_X3_init, rfl, by decide +kernel⟩
theorem kV_L_103 : LkV RL 103 RX3 yX3_thrown cX3_thrown 1 (some .int) 0 := ⟨ml_L_103, im_X3_thrown, se_X3_thrown, in_X3, co_X3_thrown, by decide +kernel⟩
theorem kV_L_102 : LkV RL 102 RX3 yX3_holiday cX3_holiday 2 (some .boolean) 1 := ⟨ml_L_102, im_X3_holiday, se_X3_holiday, in_X3, co_X3_holiday, by decide +kernel⟩
theorem kS_X3_67 : LkS RX3 67 yX3_isDay cX3_isDay 1 (some .boolean) 1 := ⟨ml_X3_67, st_X3_isDay, in_X3, co_X3_isDay, by decide +kernel⟩
theorem kS_X3_60 : LkS RX3 60 yX3_in cX3_in 3 (some .boolean) 3 := ⟨ml_X3_60, st_X3_in, in_X3, co_X3_in, by decide +kernel⟩
theorem kV_L_109 : LkV RL 109 RX3 yX3_isWorking cX3_isWorking 2 (some .boolean) 1 := ⟨ml_L_109, im_X3_isWorking, se_X3_isWorking, in_X3, co_X3_isWorking, by decide +kernel⟩
theorem kV_X3_71 : LkV RX3 71 RX3 yX3_works cX3_works 2 (some .boolean) 1 := ⟨ml_X3_71, im_X3_works, se_X3_works, in_X3, co_X3_works, by decide +kernel⟩
theorem kV_L_113 : LkV RL 113 RX3 yX3_workingDays cX3_workingDays 3 (some .int) 2 := ⟨ml_L_113, im_X3_workingDays, se_X3_workingDays, in_X3, co_X3_workingDays, by decide +kernel⟩
theorem kS_X3_74 : LkS RX3 74 yX3_barsSpan cX3_barsSpan 2 (some .int) 2 := ⟨ml_X3_74, st_X3_barsSpan, in_X3, co_X3_barsSpan, by decide +kernel⟩
theorem kV_X3_78 : LkV RX3 78 RX3 yX3_workingFrom cX3_workingFrom 5 (some .int) 2 := ⟨ml_X3_78, im_X3_workingFrom, se_X3_workingFrom, in_X3, co_X3_workingFrom, by decide +kernel⟩
theorem kV_L_116 : LkV RL 116 RX3 yX3_pass cX3_pass 2 (some .int) 1 := ⟨ml_L_116, im_X3_pass, se_X3_pass, in_X3, co_X3_pass, by decide +kernel⟩
theorem kV_L_120 : LkV RL 120 RX3 yX3_today cX3_today 1 (some .int) 0 := ⟨ml_L_120, im_X3_today, se_X3_today, in_X3, co_X3_today, by decide +kernel⟩
theorem kV_L_124 : LkV RL 124 RX3 yX3_addRule cX3_addRule 10 (some .int) 6 := ⟨ml_L_124, im_X3_addRule, se_X3_addRule, in_X3, co_X3_addRule, by decide +kernel⟩
theorem kV_L_127 : LkV RL 127 RX3 yX3_setShift cX3_setShift 4 (some .int) 2 := ⟨ml_L_127, im_X3_setShift, se_X3_setShift, in_X3, co_X3_setShift, by decide +kernel⟩
theorem kV_X3_84 : LkV RX3 84 RX3 yX3_isRule cX3_isRule 2 (some .boolean) 1 := ⟨ml_X3_84, im_X3_isRule, se_X3_isRule, in_X3, co_X3_isRule, by decide +kernel⟩
theorem kV_L_130 : LkV RL 130 RX3 yX3_require cX3_require 4 (some .boolean) 2 := ⟨ml_L_130, im_X3_require, se_X3_require, in_X3, co_X3_require, by decide +kernel⟩
theorem kV_X3_87 : LkV RX3 87 RX3 yX3_reaches cX3_reaches 7 (some .boolean) 2 := ⟨ml_X3_87, im_X3_reaches, se_X3_reaches, in_X3, co_X3_reaches, by decide +kernel⟩
theorem kV_L_134 : LkV RL 134 RX3 yX3_rules cX3_rules 1 (some .int) 0 := ⟨ml_L_134, im_X3_rules, se_X3_rules, in_X3, co_X3_rules, by decide +kernel⟩
theorem kV_L_137 : LkV RL 137 RX3 yX3_dueDay cX3_dueDay 3 (some .int) 2 := ⟨ml_L_137, im_X3_dueDay, se_X3_dueDay, in_X3, co_X3_dueDay, by decide +kernel⟩
theorem kV_X3_97 : LkV RX3 97 RX3 yX3_marks cX3_marks 4 none 0 := ⟨ml_X3_97, im_X3_marks, se_X3_marks, in_X3, co_X3_marks, by decide +kernel⟩
theorem kV_X3_91 : LkV RX3 91 RX3 yX3_isNominal cX3_isNominal 5 (some .boolean) 2 := ⟨ml_X3_91, im_X3_isNominal, se_X3_isNominal, in_X3, co_X3_isNominal, by decide +kernel⟩
theorem kV_X3_94 : LkV RX3 94 RX3 yX3_moved cX3_moved 5 (some .int) 2 := ⟨ml_X3_94, im_X3_moved, se_X3_moved, in_X3, co_X3_moved, by decide +kernel⟩
theorem kV_X3_100 : LkV RX3 100 RX3 yX3_dueAt cX3_dueAt 3 (some .int) 2 := ⟨ml_X3_100, im_X3_dueAt, se_X3_dueAt, in_X3, co_X3_dueAt, by decide +kernel⟩
theorem kV_L_140 : LkV RL 140 RX3 yX3_duties cX3_duties 2 (some .int) 1 := ⟨ml_L_140, im_X3_duties, se_X3_duties, in_X3, co_X3_duties, by decide +kernel⟩
theorem kV_X3_103 : LkV RX3 103 RX3 yX3_countBefore cX3_countBefore 4 (some .int) 2 := ⟨ml_X3_103, im_X3_countBefore, se_X3_countBefore, in_X3, co_X3_countBefore, by decide +kernel⟩
theorem kV_L_143 : LkV RL 143 RX3 yX3_nextDue cX3_nextDue 3 (some .int) 2 := ⟨ml_L_143, im_X3_nextDue, se_X3_nextDue, in_X3, co_X3_nextDue, by decide +kernel⟩
theorem kV_X3_106 : LkV RX3 106 RX3 yX3_firstFrom cX3_firstFrom 3 (some .int) 2 := ⟨ml_X3_106, im_X3_firstFrom, se_X3_firstFrom, in_X3, co_X3_firstFrom, by decide +kernel⟩
theorem kV_L_146 : LkV RL 146 RX3 yX3_nextDueByWalking cX3_nextDueByWalking 3 (some .int) 2 := ⟨ml_L_146, im_X3_nextDueByWalking, se_X3_nextDueByWalking, in_X3, co_X3_nextDueByWalking, by decide +kernel⟩
theorem kV_L_149 : LkV RL 149 RX3 yX3_upcoming cX3_upcoming 6 (some .int) 2 := ⟨ml_L_149, im_X3_upcoming, se_X3_upcoming, in_X3, co_X3_upcoming, by decide +kernel⟩
theorem kV_L_152 : LkV RL 152 RX3 yX3_finish cX3_finish 3 (some .int) 1 := ⟨ml_L_152, im_X3_finish, se_X3_finish, in_X3, co_X3_finish, by decide +kernel⟩
theorem kV_X3_109 : LkV RX3 109 RX3 yX3_blocks cX3_blocks 7 (some .int) 2 := ⟨ml_X3_109, im_X3_blocks, se_X3_blocks, in_X3, co_X3_blocks, by decide +kernel⟩
theorem kV_L_155 : LkV RL 155 RX3 yX3_open cX3_open 2 (some .int) 1 := ⟨ml_L_155, im_X3_open, se_X3_open, in_X3, co_X3_open, by decide +kernel⟩
theorem kV_L_158 : LkV RL 158 RX3 yX3_finished cX3_finished 2 (some .int) 1 := ⟨ml_L_158, im_X3_finished, se_X3_finished, in_X3, co_X3_finished, by decide +kernel⟩
theorem kV_X3_113 : LkV RX3 113 RX3 yX3_fails cX3_fails 2 (some .int) 1 := ⟨ml_X3_113, im_X3_fails, se_X3_fails, in_X3, co_X3_fails, by decide +kernel⟩
theorem kV_L_161 : LkV RL 161 RX3 yX3_blockedBy cX3_blockedBy 2 (some .int) 1 := ⟨ml_L_161, im_X3_blockedBy, se_X3_blockedBy, in_X3, co_X3_blockedBy, by decide +kernel⟩
theorem kV_L_165 : LkV RL 165 RX3 yX3_overdue cX3_overdue 4 (some .int) 0 := ⟨ml_L_165, im_X3_overdue, se_X3_overdue, in_X3, co_X3_overdue, by decide +kernel⟩
theorem kV_L_168 : LkV RL 168 RX3 yX3_order cX3_order 5 (some .int) 2 := ⟨ml_L_168, im_X3_order, se_X3_order, in_X3, co_X3_order, by decide +kernel⟩
theorem kV_X3_117 : LkV RX3 117 RX3 yX3_comesNext cX3_comesNext 7 (some .int) 1 := ⟨ml_X3_117, im_X3_comesNext, se_X3_comesNext, in_X3, co_X3_comesNext, by decide +kernel⟩
theorem kV_L_171 : LkV RL 171 RX3 yX3_isCovered cX3_isCovered 3 (some .boolean) 2 := ⟨ml_L_171, im_X3_isCovered, se_X3_isCovered, in_X3, co_X3_isCovered, by decide +kernel⟩
theorem kV_L_174 : LkV RL 174 RX3 yX3_lasts cX3_lasts 2 (some .int) 1 := ⟨ml_L_174, im_X3_lasts, se_X3_lasts, in_X3, co_X3_lasts, by decide +kernel⟩
theorem kV_L_177 : LkV RL 177 RX3 yX3_load cX3_load 2 (some .int) 1 := ⟨ml_L_177, im_X3_load, se_X3_load, in_X3, co_X3_load, by decide +kernel⟩
theorem kV_X3_120 : LkV RX3 120 RX3 yX3_loadOf cX3_loadOf 4 (some .int) 1 := ⟨ml_X3_120, im_X3_loadOf, se_X3_loadOf, in_X3, co_X3_loadOf, by decide +kernel⟩
theorem kV_L_180 : LkV RL 180 RX3 yX3_heaviest cX3_heaviest 5 (some .int) 2 := ⟨ml_L_180, im_X3_heaviest, se_X3_heaviest, in_X3, co_X3_heaviest, by decide +kernel⟩
theorem kV_L_184 : LkV RL 184 RX3 yX3_level cX3_level 4 (some .int) 3 := ⟨ml_L_184, im_X3_level, se_X3_level, in_X3, co_X3_level, by decide +kernel⟩
theorem kV_X3_130 : LkV RX3 130 RX3 yX3_barsLevel cX3_barsLevel 5 (some .int) 4 := ⟨ml_X3_130, im_X3_barsLevel, se_X3_barsLevel, in_X3, co_X3_barsLevel, by decide +kernel⟩
theorem kV_X3_134 : LkV RX3 134 RX3 yX3_levels cX3_levels 6 none 3 := ⟨ml_X3_134, im_X3_levels, se_X3_levels, in_X3, co_X3_levels, by decide +kernel⟩
theorem kV_X3_126 : LkV RX3 126 RX3 yX3_lays cX3_lays 6 none 4 := ⟨ml_X3_126, im_X3_lays, se_X3_lays, in_X3, co_X3_lays, by decide +kernel⟩
theorem kV_L_188 : LkV RL 188 RX3 yX3_levelled cX3_levelled 5 (some .int) 4 := ⟨ml_L_188, im_X3_levelled, se_X3_levelled, in_X3, co_X3_levelled, by decide +kernel⟩
section ML
variable {cy : Nat → ClassId} {ad : Nat → Nat} {M : Nat → Int → Int}
theorem mput_0_0 {v : Int} : (ml cy ad M).set 0 (ad 0, .inr (4, ([vi (M 0 0), vi (M 0 1), .ref (ad 2), vi (M 0 3), .ref (ad 4), .ref (ad 5), .ref (ad 6), .ref (ad 7), .ref (ad 8), .ref (ad 9), .ref (ad 10), .ref (ad 11), .ref (ad 12), .ref (ad 13), .ref (ad 14), .ref (ad 15), .ref (ad 16), .ref (ad 17), vi (M 0 18)] : List Value).set 0 (vi v))) = ml cy ad (upM M 0 0 v) := by simp [ml, upM]
theorem mput_0_1 {v : Int} : (ml cy ad M).set 0 (ad 0, .inr (4, ([vi (M 0 0), vi (M 0 1), .ref (ad 2), vi (M 0 3), .ref (ad 4), .ref (ad 5), .ref (ad 6), .ref (ad 7), .ref (ad 8), .ref (ad 9), .ref (ad 10), .ref (ad 11), .ref (ad 12), .ref (ad 13), .ref (ad 14), .ref (ad 15), .ref (ad 16), .ref (ad 17), vi (M 0 18)] : List Value).set 1 (vi v))) = ml cy ad (upM M 0 1 v) := by simp [ml, upM]
theorem mput_0_3 {v : Int} : (ml cy ad M).set 0 (ad 0, .inr (4, ([vi (M 0 0), vi (M 0 1), .ref (ad 2), vi (M 0 3), .ref (ad 4), .ref (ad 5), .ref (ad 6), .ref (ad 7), .ref (ad 8), .ref (ad 9), .ref (ad 10), .ref (ad 11), .ref (ad 12), .ref (ad 13), .ref (ad 14), .ref (ad 15), .ref (ad 16), .ref (ad 17), vi (M 0 18)] : List Value).set 3 (vi v))) = ml cy ad (upM M 0 3 v) := by simp [ml, upM]
theorem mput_0_18 {v : Int} : (ml cy ad M).set 0 (ad 0, .inr (4, ([vi (M 0 0), vi (M 0 1), .ref (ad 2), vi (M 0 3), .ref (ad 4), .ref (ad 5), .ref (ad 6), .ref (ad 7), .ref (ad 8), .ref (ad 9), .ref (ad 10), .ref (ad 11), .ref (ad 12), .ref (ad 13), .ref (ad 14), .ref (ad 15), .ref (ad 16), .ref (ad 17), vi (M 0 18)] : List Value).set 18 (vi v))) = ml cy ad (upM M 0 18 v) := by simp [ml, upM]
theorem mput_2 {i v : Int} (h0 : 0 ≤ i) : (ml cy ad M).set 1 (ad 2, .inl (cy 1, 720, .inl (upd (fun j : Nat => zI (M 2 j)) i.toNat (zI v)))) = ml cy ad (upM M 2 i v) := by rw [ar_upd h0]; simp [ml, upM]
theorem mput_4 {i v : Int} (h0 : 0 ≤ i) : (ml cy ad M).set 2 (ad 4, .inl (cy 0, 8, .inl (upd (fun j : Nat => zI (M 4 j)) i.toNat (zI v)))) = ml cy ad (upM M 4 i v) := by rw [ar_upd h0]; simp [ml, upM]
theorem mput_5 {i v : Int} (h0 : 0 ≤ i) : (ml cy ad M).set 3 (ad 5, .inl (cy 0, 8, .inl (upd (fun j : Nat => zI (M 5 j)) i.toNat (zI v)))) = ml cy ad (upM M 5 i v) := by rw [ar_upd h0]; simp [ml, upM]
theorem mput_6 {i v : Int} (h0 : 0 ≤ i) : (ml cy ad M).set 4 (ad 6, .inl (cy 0, 8, .inl (upd (fun j : Nat => zI (M 6 j)) i.toNat (zI v)))) = ml cy ad (upM M 6 i v) := by rw [ar_upd h0]; simp [ml, upM]
theorem mput_7 {i v : Int} (h0 : 0 ≤ i) : (ml cy ad M).set 5 (ad 7, .inl (cy 0, 8, .inl (upd (fun j : Nat => zI (M 7 j)) i.toNat (zI v)))) = ml cy ad (upM M 7 i v) := by rw [ar_upd h0]; simp [ml, upM]
theorem mput_8 {i v : Int} (h0 : 0 ≤ i) : (ml cy ad M).set 6 (ad 8, .inl (cy 0, 8, .inl (upd (fun j : Nat => zI (M 8 j)) i.toNat (zI v)))) = ml cy ad (upM M 8 i v) := by rw [ar_upd h0]; simp [ml, upM]
theorem mput_9 {i v : Int} (h0 : 0 ≤ i) : (ml cy ad M).set 7 (ad 9, .inl (cy 0, 8, .inl (upd (fun j : Nat => zI (M 9 j)) i.toNat (zI v)))) = ml cy ad (upM M 9 i v) := by rw [ar_upd h0]; simp [ml, upM]
theorem mput_10 {i v : Int} (h0 : 0 ≤ i) : (ml cy ad M).set 8 (ad 10, .inl (cy 0, 8, .inl (upd (fun j : Nat => zI (M 10 j)) i.toNat (zI v)))) = ml cy ad (upM M 10 i v) := by rw [ar_upd h0]; simp [ml, upM]
theorem mput_11 {i v : Int} (h0 : 0 ≤ i) : (ml cy ad M).set 9 (ad 11, .inl (cy 0, 8, .inl (upd (fun j : Nat => zI (M 11 j)) i.toNat (zI v)))) = ml cy ad (upM M 11 i v) := by rw [ar_upd h0]; simp [ml, upM]
theorem mput_12 {i v : Int} (h0 : 0 ≤ i) : (ml cy ad M).set 10 (ad 12, .inl (cy 1, 64, .inl (upd (fun j : Nat => zI (M 12 j)) i.toNat (zI v)))) = ml cy ad (upM M 12 i v) := by rw [ar_upd h0]; simp [ml, upM]
theorem mput_13 {i v : Int} (h0 : 0 ≤ i) : (ml cy ad M).set 11 (ad 13, .inl (cy 1, 5760, .inl (upd (fun j : Nat => zI (M 13 j)) i.toNat (zI v)))) = ml cy ad (upM M 13 i v) := by rw [ar_upd h0]; simp [ml, upM]
theorem mput_14 {i v : Int} (h0 : 0 ≤ i) : (ml cy ad M).set 12 (ad 14, .inl (cy 0, 5760, .inl (upd (fun j : Nat => zI (M 14 j)) i.toNat (zI v)))) = ml cy ad (upM M 14 i v) := by rw [ar_upd h0]; simp [ml, upM]
theorem mput_15 {i v : Int} (h0 : 0 ≤ i) : (ml cy ad M).set 13 (ad 15, .inl (cy 0, 8, .inl (upd (fun j : Nat => zI (M 15 j)) i.toNat (zI v)))) = ml cy ad (upM M 15 i v) := by rw [ar_upd h0]; simp [ml, upM]
theorem mput_16 {i v : Int} (h0 : 0 ≤ i) : (ml cy ad M).set 14 (ad 16, .inl (cy 0, 8, .inl (upd (fun j : Nat => zI (M 16 j)) i.toNat (zI v)))) = ml cy ad (upM M 16 i v) := by rw [ar_upd h0]; simp [ml, upM]
theorem mput_17 {i v : Int} (h0 : 0 ≤ i) : (ml cy ad M).set 15 (ad 17, .inl (cy 0, 720, .inl (upd (fun j : Nat => zI (M 17 j)) i.toNat (zI v)))) = ml cy ad (upM M 17 i v) := by rw [ar_upd h0]; simp [ml, upM]
end ML
