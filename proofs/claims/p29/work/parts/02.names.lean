/-! ===== BEGIN printed: names, fields, word lists, decode rows ===== -/
def RX0 : String := "Obligary$Calendar"
def TX0 : u_T := fun k => match k with
  | 0 => ("Obligary$Calendar", "holidays", "[Z", true)
  | 1 => ("Obligary$Calendar", "numbersFromStart", "[I", true)
  | _ => ("Obligary$Calendar", "numbersFromEnd", "[I", true)
def tyX0 : Nat → FieldType := fun k => match k with
  | 0 => .array .boolean
  | 1 => .array .int
  | _ => .array .int
abbrev wsX00 : List Cond := u_ws RX0 TX0 3
theorem nmX0 : ∀ a, a < 3 → ∀ b, b < 3 → a ≠ b → (TX0 a).2.1 ≠ (TX0 b).2.1 := by decide +kernel
theorem tyX0_ok : ∀ k, k < 3 → parseFieldDescriptor (TX0 k).2.2.1 = some (tyX0 k) := by decide +kernel
abbrev cX0_init : ByteArray := prog_2_method_1_code
def yX0_init : MethodName := ⟨RX0, "<init>", "()V"⟩
abbrev cX0_toggleHoliday : ByteArray := prog_2_method_2_code
def yX0_toggleHoliday : MethodName := ⟨RX0, "toggleHoliday", "(I)Z"⟩
abbrev cX0_works : ByteArray := prog_2_method_3_code
def yX0_works : MethodName := ⟨RX0, "works", "(I)Z"⟩
abbrev cX0_numberFromStart : ByteArray := prog_2_method_4_code
def yX0_numberFromStart : MethodName := ⟨RX0, "numberFromStart", "(I)I"⟩
abbrev cX0_numberFromEnd : ByteArray := prog_2_method_5_code
def yX0_numberFromEnd : MethodName := ⟨RX0, "numberFromEnd", "(I)I"⟩
abbrev cX0_numberMonthOf : ByteArray := prog_2_method_6_code
def yX0_numberMonthOf : MethodName := ⟨RX0, "numberMonthOf", "(I)V"⟩
def RX1 : String := "Obligary$Rule"
def TX1 : u_T := fun k => match k with
  | 0 => ("Obligary$Rule", "kind", "I", true)
  | 1 => ("Obligary$Rule", "n", "I", true)
  | 2 => ("Obligary$Rule", "first", "I", true)
  | 3 => ("Obligary$Rule", "effort", "I", true)
  | 4 => ("Obligary$Rule", "validity", "I", true)
  | 5 => ("Obligary$Rule", "shift", "I", false)
  | 6 => ("Obligary$Rule", "required", "I", false)
  | 7 => ("Obligary$Rule", "needed", "I", false)
  | 8 => ("Obligary$Rule", "finished", "I", false)
  | 9 => ("Obligary$Rule", "evidenceFrom", "I", false)
  | 10 => ("Obligary$Rule", "foreseenDay", "I", false)
  | _ => ("Obligary$Rule", "dueDays", "[Z", true)
def tyX1 : Nat → FieldType := fun k => match k with
  | 0 => .int
  | 1 => .int
  | 2 => .int
  | 3 => .int
  | 4 => .int
  | 5 => .int
  | 6 => .int
  | 7 => .int
  | 8 => .int
  | 9 => .int
  | 10 => .int
  | _ => .array .boolean
abbrev wsX10 : List Cond := u_ws RX1 TX1 12
theorem nmX1 : ∀ a, a < 12 → ∀ b, b < 12 → a ≠ b → (TX1 a).2.1 ≠ (TX1 b).2.1 := by decide +kernel
theorem tyX1_ok : ∀ k, k < 12 → parseFieldDescriptor (TX1 k).2.2.1 = some (tyX1 k) := by decide +kernel
abbrev cX1_init : ByteArray := prog_3_method_1_code
def yX1_init : MethodName := ⟨RX1, "<init>", "(IIIIII)V"⟩
abbrev cX1_requires : ByteArray := prog_3_method_2_code
def yX1_requires : MethodName := ⟨RX1, "requires", "(I)Z"⟩
abbrev cX1_needs : ByteArray := prog_3_method_3_code
def yX1_needs : MethodName := ⟨RX1, "needs", "(I)Z"⟩
abbrev cX1_layDueDays : ByteArray := prog_3_method_4_code
def yX1_layDueDays : MethodName := ⟨RX1, "layDueDays", "(LObligary$Calendar;)V"⟩
abbrev cX1_isDueOn : ByteArray := prog_3_method_5_code
def yX1_isDueOn : MethodName := ⟨RX1, "isDueOn", "(I)Z"⟩
abbrev cX1_dayOfDuty : ByteArray := prog_3_method_6_code
def yX1_dayOfDuty : MethodName := ⟨RX1, "dayOfDuty", "(I)I"⟩
abbrev cX1_countDueBefore : ByteArray := prog_3_method_7_code
def yX1_countDueBefore : MethodName := ⟨RX1, "countDueBefore", "(I)I"⟩
abbrev cX1_firstDueFrom : ByteArray := prog_3_method_8_code
def yX1_firstDueFrom : MethodName := ⟨RX1, "firstDueFrom", "(I)I"⟩
abbrev cX1_openDay : ByteArray := prog_3_method_9_code
def yX1_openDay : MethodName := ⟨RX1, "openDay", "()I"⟩
abbrev cX1_hasEvidence : ByteArray := prog_3_method_10_code
def yX1_hasEvidence : MethodName := ⟨RX1, "hasEvidence", "()Z"⟩
abbrev cX1_evidenceUntil : ByteArray := prog_3_method_11_code
def yX1_evidenceUntil : MethodName := ⟨RX1, "evidenceUntil", "()I"⟩
abbrev cX1_walkToDue : ByteArray := prog_3_method_12_code
def yX1_walkToDue : MethodName := ⟨RX1, "walkToDue", "(ILObligary$Calendar;)I"⟩
abbrev cX1_isMovedTo : ByteArray := prog_3_method_13_code
def yX1_isMovedTo : MethodName := ⟨RX1, "isMovedTo", "(ILObligary$Calendar;)Z"⟩
abbrev cX1_isNominal : ByteArray := prog_3_method_14_code
def yX1_isNominal : MethodName := ⟨RX1, "isNominal", "(ILObligary$Calendar;)Z"⟩
def RX2 : String := "Obligary"
def TX2 : u_T := fun k => match k with
  | 0 => ("Obligary", "calendar", "LObligary$Calendar;", true)
  | 1 => ("Obligary", "rules", "Ljava/util/ArrayList;", true)
  | 2 => ("Obligary", "today", "I", false)
  | _ => ("Obligary", "laidEfforts", "[I", true)
def tyX2 : Nat → FieldType := fun k => match k with
  | 0 => .object "Obligary$Calendar"
  | 1 => .object "java/util/ArrayList"
  | 2 => .int
  | _ => .array .int
abbrev wsX20 : List Cond := u_ws RX2 TX2 4
theorem nmX2 : ∀ a, a < 4 → ∀ b, b < 4 → a ≠ b → (TX2 a).2.1 ≠ (TX2 b).2.1 := by decide +kernel
theorem tyX2_ok : ∀ k, k < 4 → parseFieldDescriptor (TX2 k).2.2.1 = some (tyX2 k) := by decide +kernel
abbrev cX2_init : ByteArray := prog_1_method_1_code
def yX2_init : MethodName := ⟨RX2, "<init>", "()V"⟩
abbrev cX2_holiday : ByteArray := prog_1_method_2_code
def yX2_holiday : MethodName := ⟨RX2, "holiday", "(I)Z"⟩
abbrev cX2_isWorking : ByteArray := prog_1_method_3_code
def yX2_isWorking : MethodName := ⟨RX2, "isWorking", "(I)Z"⟩
abbrev cX2_pass : ByteArray := prog_1_method_5_code
def yX2_pass : MethodName := ⟨RX2, "pass", "(I)I"⟩
abbrev cX2_today : ByteArray := prog_1_method_6_code
def yX2_today : MethodName := ⟨RX2, "today", "()I"⟩
abbrev cX2_addRule : ByteArray := prog_1_method_7_code
def yX2_addRule : MethodName := ⟨RX2, "addRule", "(IIIIII)I"⟩
abbrev cX2_setShift : ByteArray := prog_1_method_8_code
def yX2_setShift : MethodName := ⟨RX2, "setShift", "(II)I"⟩
abbrev cX2_require : ByteArray := prog_1_method_9_code
def yX2_require : MethodName := ⟨RX2, "require", "(II)Z"⟩
abbrev cX2_rules : ByteArray := prog_1_method_10_code
def yX2_rules : MethodName := ⟨RX2, "rules", "()I"⟩
abbrev cX2_dueDay : ByteArray := prog_1_method_11_code
def yX2_dueDay : MethodName := ⟨RX2, "dueDay", "(II)I"⟩
abbrev cX2_duties : ByteArray := prog_1_method_12_code
def yX2_duties : MethodName := ⟨RX2, "duties", "(I)I"⟩
abbrev cX2_nextDue : ByteArray := prog_1_method_13_code
def yX2_nextDue : MethodName := ⟨RX2, "nextDue", "(II)I"⟩
abbrev cX2_nextDueByWalking : ByteArray := prog_1_method_14_code
def yX2_nextDueByWalking : MethodName := ⟨RX2, "nextDueByWalking", "(II)I"⟩
abbrev cX2_finish : ByteArray := prog_1_method_16_code
def yX2_finish : MethodName := ⟨RX2, "finish", "(I)I"⟩
abbrev cX2_open : ByteArray := prog_1_method_17_code
def yX2_open : MethodName := ⟨RX2, "open", "(I)I"⟩
abbrev cX2_finished : ByteArray := prog_1_method_18_code
def yX2_finished : MethodName := ⟨RX2, "finished", "(I)I"⟩
abbrev cX2_blockedBy : ByteArray := prog_1_method_19_code
def yX2_blockedBy : MethodName := ⟨RX2, "blockedBy", "(I)I"⟩
abbrev cX2_order : ByteArray := prog_1_method_21_code
def yX2_order : MethodName := ⟨RX2, "order", "(II)I"⟩
abbrev cX2_isCovered : ByteArray := prog_1_method_22_code
def yX2_isCovered : MethodName := ⟨RX2, "isCovered", "(II)Z"⟩
abbrev cX2_lasts : ByteArray := prog_1_method_23_code
def yX2_lasts : MethodName := ⟨RX2, "lasts", "(I)I"⟩
abbrev cX2_isDay : ByteArray := prog_1_method_28_code
def yX2_isDay : MethodName := ⟨RX2, "isDay", "(I)Z"⟩
abbrev cX2_checkDay : ByteArray := prog_1_method_29_code
def yX2_checkDay : MethodName := ⟨RX2, "checkDay", "(I)V"⟩
abbrev cX2_checkPlace : ByteArray := prog_1_method_31_code
def yX2_checkPlace : MethodName := ⟨RX2, "checkPlace", "(I)V"⟩
abbrev cX2_checkRange : ByteArray := prog_1_method_32_code
def yX2_checkRange : MethodName := ⟨RX2, "checkRange", "(III)V"⟩
abbrev cX2_checkKind : ByteArray := prog_1_method_33_code
def yX2_checkKind : MethodName := ⟨RX2, "checkKind", "(II)V"⟩
abbrev cX2_checkShift : ByteArray := prog_1_method_34_code
def yX2_checkShift : MethodName := ⟨RX2, "checkShift", "(I)V"⟩
abbrev cX2_ruleAt : ByteArray := prog_1_method_35_code
def yX2_ruleAt : MethodName := ⟨RX2, "ruleAt", "(I)LObligary$Rule;"⟩
abbrev cX2_spreadNeeds : ByteArray := prog_1_method_36_code
def yX2_spreadNeeds : MethodName := ⟨RX2, "spreadNeeds", "(II)V"⟩
abbrev cX2_foreseeOpenDuties : ByteArray := prog_1_method_37_code
def yX2_foreseeOpenDuties : MethodName := ⟨RX2, "foreseeOpenDuties", "()V"⟩
abbrev cX2_leastBlocker : ByteArray := prog_1_method_38_code
def yX2_leastBlocker : MethodName := ⟨RX2, "leastBlocker", "(LObligary$Rule;)I"⟩
abbrev cX2_nextInOrder : ByteArray := prog_1_method_39_code
def yX2_nextInOrder : MethodName := ⟨RX2, "nextInOrder", "(I)I"⟩
def RX3 : String := "ObligaryModel"
def TX3 : u_T := fun k => match k with
  | _ => ("", "", "", false)
def tyX3 : Nat → FieldType := fun k => match k with
  | _ => .int
abbrev wsX30 : List Cond := u_ws RX3 TX3 0
theorem nmX3 : ∀ a, a < 0 → ∀ b, b < 0 → a ≠ b → (TX3 a).2.1 ≠ (TX3 b).2.1 := by decide +kernel
theorem tyX3_ok : ∀ k, k < 0 → parseFieldDescriptor (TX3 k).2.2.1 = some (tyX3 k) := by decide +kernel
def RJx145de : String := "java/io/Serializable"
def TJx145de : u_T := fun k => match k with
  | _ => ("", "", "", false)
def tyJx145de : Nat → FieldType := fun k => match k with
  | _ => .int
abbrev wsJx145de0 : List Cond := u_ws RJx145de TJx145de 0
theorem nmJx145de : ∀ a, a < 0 → ∀ b, b < 0 → a ≠ b → (TJx145de a).2.1 ≠ (TJx145de b).2.1 := by decide +kernel
theorem tyJx145de_ok : ∀ k, k < 0 → parseFieldDescriptor (TJx145de k).2.2.1 = some (tyJx145de k) := by decide +kernel
def RJx8e188 : String := "java/lang/Cloneable"
def TJx8e188 : u_T := fun k => match k with
  | _ => ("", "", "", false)
def tyJx8e188 : Nat → FieldType := fun k => match k with
  | _ => .int
abbrev wsJx8e1880 : List Cond := u_ws RJx8e188 TJx8e188 0
theorem nmJx8e188 : ∀ a, a < 0 → ∀ b, b < 0 → a ≠ b → (TJx8e188 a).2.1 ≠ (TJx8e188 b).2.1 := by decide +kernel
theorem tyJx8e188_ok : ∀ k, k < 0 → parseFieldDescriptor (TJx8e188 k).2.2.1 = some (tyJx8e188 k) := by decide +kernel
def RJxab1ab : String := "java/lang/Iterable"
def TJxab1ab : u_T := fun k => match k with
  | _ => ("", "", "", false)
def tyJxab1ab : Nat → FieldType := fun k => match k with
  | _ => .int
abbrev wsJxab1ab0 : List Cond := u_ws RJxab1ab TJxab1ab 0
theorem nmJxab1ab : ∀ a, a < 0 → ∀ b, b < 0 → a ≠ b → (TJxab1ab a).2.1 ≠ (TJxab1ab b).2.1 := by decide +kernel
theorem tyJxab1ab_ok : ∀ k, k < 0 → parseFieldDescriptor (TJxab1ab k).2.2.1 = some (tyJxab1ab k) := by decide +kernel
def RJ9 : String := "java/lang/Math"
def TJ9 : u_T := fun k => match k with
  | _ => ("", "", "", false)
def tyJ9 : Nat → FieldType := fun k => match k with
  | _ => .int
abbrev wsJ90 : List Cond := u_ws RJ9 TJ9 0
theorem nmJ9 : ∀ a, a < 0 → ∀ b, b < 0 → a ≠ b → (TJ9 a).2.1 ≠ (TJ9 b).2.1 := by decide +kernel
theorem tyJ9_ok : ∀ k, k < 0 → parseFieldDescriptor (TJ9 k).2.2.1 = some (tyJ9 k) := by decide +kernel
abbrev cJ9_max_7cf53 : ByteArray := prog_13_method_65_code
def yJ9_max_7cf53 : MethodName := ⟨RJ9, "max", "(II)I"⟩
abbrev cJ9_min_7cf53 : ByteArray := prog_13_method_69_code
def yJ9_min_7cf53 : MethodName := ⟨RJ9, "min", "(II)I"⟩
def RJ0 : String := "java/lang/String"
def TJ0 : u_T := fun k => match k with
  | _ => ("", "", "", false)
def tyJ0 : Nat → FieldType := fun k => match k with
  | _ => .int
abbrev wsJ00 : List Cond := u_ws RJ0 TJ0 0
theorem nmJ0 : ∀ a, a < 0 → ∀ b, b < 0 → a ≠ b → (TJ0 a).2.1 ≠ (TJ0 b).2.1 := by decide +kernel
theorem tyJ0_ok : ∀ k, k < 0 → parseFieldDescriptor (TJ0 k).2.2.1 = some (tyJ0 k) := by decide +kernel
def RJ10 : String := "java/lang/System"
def TJ10 : u_T := fun k => match k with
  | _ => ("", "", "", false)
def tyJ10 : Nat → FieldType := fun k => match k with
  | _ => .int
abbrev wsJ100 : List Cond := u_ws RJ10 TJ10 0
theorem nmJ10 : ∀ a, a < 0 → ∀ b, b < 0 → a ≠ b → (TJ10 a).2.1 ≠ (TJ10 b).2.1 := by decide +kernel
theorem tyJ10_ok : ∀ k, k < 0 → parseFieldDescriptor (TJ10 k).2.2.1 = some (tyJ10 k) := by decide +kernel
def RJxa1e45 : String := "java/util/AbstractCollection"
def TJxa1e45 : u_T := fun k => match k with
  | _ => ("", "", "", false)
def tyJxa1e45 : Nat → FieldType := fun k => match k with
  | _ => .int
abbrev wsJxa1e450 : List Cond := u_ws RJxa1e45 TJxa1e45 0
theorem nmJxa1e45 : ∀ a, a < 0 → ∀ b, b < 0 → a ≠ b → (TJxa1e45 a).2.1 ≠ (TJxa1e45 b).2.1 := by decide +kernel
theorem tyJxa1e45_ok : ∀ k, k < 0 → parseFieldDescriptor (TJxa1e45 k).2.2.1 = some (tyJxa1e45 k) := by decide +kernel
abbrev cJxa1e45_init_da8c8 : ByteArray := prog_18_method_1_code
def yJxa1e45_init_da8c8 : MethodName := ⟨RJxa1e45, "<init>", "()V"⟩
def RJxc12de : String := "java/util/AbstractList"
def TJxc12de : u_T := fun k => match k with
  | _ => ("", "", "", false)
def tyJxc12de : Nat → FieldType := fun k => match k with
  | _ => .int
abbrev wsJxc12de0 : List Cond := u_ws RJxc12de TJxc12de 0
theorem nmJxc12de : ∀ a, a < 0 → ∀ b, b < 0 → a ≠ b → (TJxc12de a).2.1 ≠ (TJxc12de b).2.1 := by decide +kernel
theorem tyJxc12de_ok : ∀ k, k < 0 → parseFieldDescriptor (TJxc12de k).2.2.1 = some (tyJxc12de k) := by decide +kernel
abbrev cJxc12de_init_da8c8 : ByteArray := prog_19_method_1_code
def yJxc12de_init_da8c8 : MethodName := ⟨RJxc12de, "<init>", "()V"⟩
def RJx4a65c : String := "java/util/ArrayList"
def TJx4a65c : u_T := fun k => match k with
  | 0 => ("java/util/AbstractList", "modCount", "I", false)
  | 1 => ("java/util/ArrayList", "elementData", "[Ljava/lang/Object;", false)
  | _ => ("java/util/ArrayList", "size", "I", false)
def tyJx4a65c : Nat → FieldType := fun k => match k with
  | 0 => .int
  | 1 => .array (.object "java/lang/Object")
  | _ => .int
abbrev wsJx4a65c0 : List Cond := u_ws RJx4a65c TJx4a65c 3
theorem nmJx4a65c : ∀ a, a < 3 → ∀ b, b < 3 → a ≠ b → (TJx4a65c a).2.1 ≠ (TJx4a65c b).2.1 := by decide +kernel
theorem tyJx4a65c_ok : ∀ k, k < 3 → parseFieldDescriptor (TJx4a65c k).2.2.1 = some (tyJx4a65c k) := by decide +kernel
abbrev cJx4a65c_init_da8c8 : ByteArray := prog_20_method_2_code
def yJx4a65c_init_da8c8 : MethodName := ⟨RJx4a65c, "<init>", "()V"⟩
abbrev cJx4a65c_grow_92f84 : ByteArray := prog_20_method_6_code
def yJx4a65c_grow_92f84 : MethodName := ⟨RJx4a65c, "grow", "(I)[Ljava/lang/Object;"⟩
abbrev cJx4a65c_grow_d5877 : ByteArray := prog_20_method_7_code
def yJx4a65c_grow_d5877 : MethodName := ⟨RJx4a65c, "grow", "()[Ljava/lang/Object;"⟩
abbrev cJx4a65c_size_8abf5 : ByteArray := prog_20_method_8_code
def yJx4a65c_size_8abf5 : MethodName := ⟨RJx4a65c, "size", "()I"⟩
abbrev cJx4a65c_elementData_915e3 : ByteArray := prog_20_method_18_code
def yJx4a65c_elementData_915e3 : MethodName := ⟨RJx4a65c, "elementData", "(I)Ljava/lang/Object;"⟩
abbrev cJx4a65c_get_915e3 : ByteArray := prog_20_method_20_code
def yJx4a65c_get_915e3 : MethodName := ⟨RJx4a65c, "get", "(I)Ljava/lang/Object;"⟩
abbrev cJx4a65c_add_72be8 : ByteArray := prog_20_method_24_code
def yJx4a65c_add_72be8 : MethodName := ⟨RJx4a65c, "add", "(Ljava/lang/Object;[Ljava/lang/Object;I)V"⟩
abbrev cJx4a65c_add_9ea2d : ByteArray := prog_20_method_25_code
def yJx4a65c_add_9ea2d : MethodName := ⟨RJx4a65c, "add", "(Ljava/lang/Object;)Z"⟩
def RJ7 : String := "java/util/Arrays"
def TJ7 : u_T := fun k => match k with
  | _ => ("", "", "", false)
def tyJ7 : Nat → FieldType := fun k => match k with
  | _ => .int
abbrev wsJ70 : List Cond := u_ws RJ7 TJ7 0
theorem nmJ7 : ∀ a, a < 0 → ∀ b, b < 0 → a ≠ b → (TJ7 a).2.1 ≠ (TJ7 b).2.1 := by decide +kernel
theorem tyJ7_ok : ∀ k, k < 0 → parseFieldDescriptor (TJ7 k).2.2.1 = some (tyJ7 k) := by decide +kernel
abbrev cJ7_copyOf_1904c : ByteArray := prog_21_method_119_code
def yJ7_copyOf_1904c : MethodName := ⟨RJ7, "copyOf", "([Ljava/lang/Object;I)[Ljava/lang/Object;"⟩
abbrev cJ7_copyOf_6403c : ByteArray := prog_21_method_120_code
def yJ7_copyOf_6403c : MethodName := ⟨RJ7, "copyOf", "([Ljava/lang/Object;ILjava/lang/Class;)[Ljava/lang/Object;"⟩
def RJx5ef63 : String := "java/util/Collection"
def TJx5ef63 : u_T := fun k => match k with
  | _ => ("", "", "", false)
def tyJx5ef63 : Nat → FieldType := fun k => match k with
  | _ => .int
abbrev wsJx5ef630 : List Cond := u_ws RJx5ef63 TJx5ef63 0
theorem nmJx5ef63 : ∀ a, a < 0 → ∀ b, b < 0 → a ≠ b → (TJx5ef63 a).2.1 ≠ (TJx5ef63 b).2.1 := by decide +kernel
theorem tyJx5ef63_ok : ∀ k, k < 0 → parseFieldDescriptor (TJx5ef63 k).2.2.1 = some (tyJx5ef63 k) := by decide +kernel
def RJxbd725 : String := "java/util/List"
def TJxbd725 : u_T := fun k => match k with
  | _ => ("", "", "", false)
def tyJxbd725 : Nat → FieldType := fun k => match k with
  | _ => .int
abbrev wsJxbd7250 : List Cond := u_ws RJxbd725 TJxbd725 0
theorem nmJxbd725 : ∀ a, a < 0 → ∀ b, b < 0 → a ≠ b → (TJxbd725 a).2.1 ≠ (TJxbd725 b).2.1 := by decide +kernel
theorem tyJxbd725_ok : ∀ k, k < 0 → parseFieldDescriptor (TJxbd725 k).2.2.1 = some (tyJxbd725 k) := by decide +kernel
def RJ15 : String := "java/util/Objects"
def TJ15 : u_T := fun k => match k with
  | _ => ("", "", "", false)
def tyJ15 : Nat → FieldType := fun k => match k with
  | _ => .int
abbrev wsJ150 : List Cond := u_ws RJ15 TJ15 0
theorem nmJ15 : ∀ a, a < 0 → ∀ b, b < 0 → a ≠ b → (TJ15 a).2.1 ≠ (TJ15 b).2.1 := by decide +kernel
theorem tyJ15_ok : ∀ k, k < 0 → parseFieldDescriptor (TJ15 k).2.2.1 = some (tyJ15 k) := by decide +kernel
abbrev cJ15_checkIndex_7cf53 : ByteArray := prog_25_method_17_code
def yJ15_checkIndex_7cf53 : MethodName := ⟨RJ15, "checkIndex", "(II)I"⟩
def RJxf0a74 : String := "java/util/RandomAccess"
def TJxf0a74 : u_T := fun k => match k with
  | _ => ("", "", "", false)
def tyJxf0a74 : Nat → FieldType := fun k => match k with
  | _ => .int
abbrev wsJxf0a740 : List Cond := u_ws RJxf0a74 TJxf0a74 0
theorem nmJxf0a74 : ∀ a, a < 0 → ∀ b, b < 0 → a ≠ b → (TJxf0a74 a).2.1 ≠ (TJxf0a74 b).2.1 := by decide +kernel
theorem tyJxf0a74_ok : ∀ k, k < 0 → parseFieldDescriptor (TJxf0a74 k).2.2.1 = some (tyJxf0a74 k) := by decide +kernel
def RJxa66e6 : String := "java/util/SequencedCollection"
def TJxa66e6 : u_T := fun k => match k with
  | _ => ("", "", "", false)
def tyJxa66e6 : Nat → FieldType := fun k => match k with
  | _ => .int
abbrev wsJxa66e60 : List Cond := u_ws RJxa66e6 TJxa66e6 0
theorem nmJxa66e6 : ∀ a, a < 0 → ∀ b, b < 0 → a ≠ b → (TJxa66e6 a).2.1 ≠ (TJxa66e6 b).2.1 := by decide +kernel
theorem tyJxa66e6_ok : ∀ k, k < 0 → parseFieldDescriptor (TJxa66e6 k).2.2.1 = some (tyJxa66e6 k) := by decide +kernel
def RJ8 : String := "jdk/internal/util/ArraysSupport"
def TJ8 : u_T := fun k => match k with
  | _ => ("", "", "", false)
def tyJ8 : Nat → FieldType := fun k => match k with
  | _ => .int
abbrev wsJ80 : List Cond := u_ws RJ8 TJ8 0
theorem nmJ8 : ∀ a, a < 0 → ∀ b, b < 0 → a ≠ b → (TJ8 a).2.1 ≠ (TJ8 b).2.1 := by decide +kernel
theorem tyJ8_ok : ∀ k, k < 0 → parseFieldDescriptor (TJ8 k).2.2.1 = some (tyJ8 k) := by decide +kernel
abbrev cJ8_newLength_cabcc : ByteArray := prog_28_method_27_code
def yJ8_newLength_cabcc : MethodName := ⟨RJ8, "newLength", "(III)I"⟩
abbrev cJ8_hugeLength_7cf53 : ByteArray := prog_28_method_28_code
def yJ8_hugeLength_7cf53 : MethodName := ⟨RJ8, "hugeLength", "(II)I"⟩
def RJ3 : String := "jdk/internal/util/Preconditions"
def TJ3 : u_T := fun k => match k with
  | _ => ("", "", "", false)
def tyJ3 : Nat → FieldType := fun k => match k with
  | _ => .int
abbrev wsJ30 : List Cond := u_ws RJ3 TJ3 0
theorem nmJ3 : ∀ a, a < 0 → ∀ b, b < 0 → a ≠ b → (TJ3 a).2.1 ≠ (TJ3 b).2.1 := by decide +kernel
theorem tyJ3_ok : ∀ k, k < 0 → parseFieldDescriptor (TJ3 k).2.2.1 = some (tyJ3 k) := by decide +kernel
abbrev cJ3_checkIndex_8e157 : ByteArray := prog_29_method_11_code
def yJ3_checkIndex_8e157 : MethodName := ⟨RJ3, "checkIndex", "(IILjava/util/function/BiFunction;)I"⟩
def RL : String := "ObligaryLaw"
abbrev cL_cell : ByteArray := method_2_code
def yL_cell : MethodName := ⟨RL, "cell", "([II)I"⟩
abbrev cL_low : ByteArray := method_3_code
def yL_low : MethodName := ⟨RL, "low", "(II)I"⟩
abbrev cL_areDue : ByteArray := method_4_code
def yL_areDue : MethodName := ⟨RL, "areDue", "(LObligary;II)Z"⟩
abbrev cL_isOrder : ByteArray := method_5_code
def yL_isOrder : MethodName := ⟨RL, "isOrder", "(LObligary;I[I)Z"⟩
abbrev cL_law : ByteArray := code
def yL_law : MethodName := ⟨RL, "law", "([I)Z"⟩
abbrev vwCl : List vw_C := [(RJx4a65c, TJx4a65c, 3), (RX0, TX0, 3), (RX1, TX1, 12), (RX2, TX2, 4)]
