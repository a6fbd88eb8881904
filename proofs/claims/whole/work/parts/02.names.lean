def cn_C : String := "HydrantRows"
def cf_C : u_T := fun k => match k with
  | 0 => ("HydrantRows", "hydrantRow", "[LHydrantRows$Hydrant;", true)
  | 1 => ("HydrantRows", "testRow", "[LHydrantRows$Test;", true)
  | 2 => ("HydrantRows", "limits", "[I", true)
  | 3 => ("HydrantRows", "ranking", "LHydrantRows$Ranking;", true)
  | 4 => ("HydrantRows", "walk", "LHydrantRows$Walk;", true)
  | 5 => ("HydrantRows", "hydrantCount", "I", false)
  | 6 => ("HydrantRows", "testCount", "I", false)
  | _ => ("HydrantRows", "privateAllowed", "Z", false)
def ct_C : Nat → FieldType := fun k => match k with
  | 0 => .array (.object "HydrantRows$Hydrant")
  | 1 => .array (.object "HydrantRows$Test")
  | 2 => .array .int
  | 3 => .object "HydrantRows$Ranking"
  | 4 => .object "HydrantRows$Walk"
  | 5 => .int
  | 6 => .int
  | _ => .boolean
theorem cm_C : ∀ a, a < 8 → ∀ b, b < 8 → a ≠ b → (cf_C a).2.1 ≠ (cf_C b).2.1 := by decide +kernel
theorem co_C : ∀ k, k < 8 → parseFieldDescriptor (cf_C k).2.2.1 = some (ct_C k) := by decide +kernel
def cn_H : String := "HydrantRows$Hydrant"
def cf_H : u_T := fun k => match k with
  | 0 => ("HydrantRows$Hydrant", "number", "I", true)
  | 1 => ("HydrantRows$Hydrant", "x", "I", true)
  | 2 => ("HydrantRows$Hydrant", "y", "I", true)
  | 3 => ("HydrantRows$Hydrant", "main", "I", true)
  | 4 => ("HydrantRows$Hydrant", "kind", "I", true)
  | 5 => ("HydrantRows$Hydrant", "worksRow", "[LHydrantRows$Works;", true)
  | 6 => ("HydrantRows$Hydrant", "worksCount", "I", false)
  | 7 => ("HydrantRows$Hydrant", "defect", "I", false)
  | 8 => ("HydrantRows$Hydrant", "dryMonths", "I", false)
  | 9 => ("HydrantRows$Hydrant", "testCount", "I", false)
  | _ => ("HydrantRows$Hydrant", "counting", "LHydrantRows$Test;", false)
def ct_H : Nat → FieldType := fun k => match k with
  | 0 => .int
  | 1 => .int
  | 2 => .int
  | 3 => .int
  | 4 => .int
  | 5 => .array (.object "HydrantRows$Works")
  | 6 => .int
  | 7 => .int
  | 8 => .int
  | 9 => .int
  | _ => .object "HydrantRows$Test"
theorem cm_H : ∀ a, a < 11 → ∀ b, b < 11 → a ≠ b → (cf_H a).2.1 ≠ (cf_H b).2.1 := by decide +kernel
theorem co_H : ∀ k, k < 11 → parseFieldDescriptor (cf_H k).2.2.1 = some (ct_H k) := by decide +kernel
def cn_T : String := "HydrantRows$Test"
def cf_T : u_T := fun k => match k with
  | 0 => ("HydrantRows$Test", "number", "I", true)
  | 1 => ("HydrantRows$Test", "hydrant", "I", true)
  | 2 => ("HydrantRows$Test", "day", "I", true)
  | 3 => ("HydrantRows$Test", "rest", "I", true)
  | 4 => ("HydrantRows$Test", "flow", "I", true)
  | _ => ("HydrantRows$Test", "left", "I", true)
def ct_T : Nat → FieldType := fun k => match k with
  | 0 => .int
  | 1 => .int
  | 2 => .int
  | 3 => .int
  | 4 => .int
  | _ => .int
theorem cm_T : ∀ a, a < 6 → ∀ b, b < 6 → a ≠ b → (cf_T a).2.1 ≠ (cf_T b).2.1 := by decide +kernel
theorem co_T : ∀ k, k < 6 → parseFieldDescriptor (cf_T k).2.2.1 = some (ct_T k) := by decide +kernel
def cn_O : String := "HydrantRows$Works"
def cf_O : u_T := fun k => match k with
  | 0 => ("HydrantRows$Works", "from", "I", true)
  | _ => ("HydrantRows$Works", "to", "I", true)
def ct_O : Nat → FieldType := fun k => match k with
  | 0 => .int
  | _ => .int
theorem cm_O : ∀ a, a < 2 → ∀ b, b < 2 → a ≠ b → (cf_O a).2.1 ≠ (cf_O b).2.1 := by decide +kernel
theorem co_O : ∀ k, k < 2 → parseFieldDescriptor (cf_O k).2.2.1 = some (ct_O k) := by decide +kernel
def cn_K : String := "HydrantRows$Ranking"
def cf_K : u_T := fun k => match k with
  | 0 => ("HydrantRows$Ranking", "keys", "[I", true)
  | _ => ("HydrantRows$Ranking", "size", "I", false)
def ct_K : Nat → FieldType := fun k => match k with
  | 0 => .array .int
  | _ => .int
theorem cm_K : ∀ a, a < 2 → ∀ b, b < 2 → a ≠ b → (cf_K a).2.1 ≠ (cf_K b).2.1 := by decide +kernel
theorem co_K : ∀ k, k < 2 → parseFieldDescriptor (cf_K k).2.2.1 = some (ct_K k) := by decide +kernel
def cn_A : String := "HydrantRows$Walk"
def cf_A : u_T := fun k => match k with
  | 0 => ("HydrantRows$Walk", "chosen", "[LHydrantRows$Hydrant;", true)
  | 1 => ("HydrantRows$Walk", "way", "[I", true)
  | 2 => ("HydrantRows$Walk", "bestWay", "[I", true)
  | 3 => ("HydrantRows$Walk", "count", "I", false)
  | _ => ("HydrantRows$Walk", "least", "I", false)
def ct_A : Nat → FieldType := fun k => match k with
  | 0 => .array (.object "HydrantRows$Hydrant")
  | 1 => .array .int
  | 2 => .array .int
  | 3 => .int
  | _ => .int
theorem cm_A : ∀ a, a < 5 → ∀ b, b < 5 → a ≠ b → (cf_A a).2.1 ≠ (cf_A b).2.1 := by decide +kernel
theorem co_A : ∀ k, k < 5 → parseFieldDescriptor (cf_A k).2.2.1 = some (ct_A k) := by decide +kernel
def cn_M : String := "HydrantRowsModel"
def cf_M : u_T := fun k => match k with
  | 0 => ("HydrantRowsModel", "thrown", "I", false)
  | 1 => ("HydrantRowsModel", "hydrants", "I", false)
  | 2 => ("HydrantRowsModel", "x", "[I", true)
  | 3 => ("HydrantRowsModel", "y", "[I", true)
  | 4 => ("HydrantRowsModel", "main", "[I", true)
  | 5 => ("HydrantRowsModel", "kind", "[I", true)
  | 6 => ("HydrantRowsModel", "grade", "[I", true)
  | 7 => ("HydrantRowsModel", "many", "[I", true)
  | 8 => ("HydrantRowsModel", "from", "[I", true)
  | 9 => ("HydrantRowsModel", "to", "[I", true)
  | 10 => ("HydrantRowsModel", "dry", "[Z", true)
  | 11 => ("HydrantRowsModel", "limit", "[I", true)
  | 12 => ("HydrantRowsModel", "allowed", "Z", false)
  | 13 => ("HydrantRowsModel", "tests", "I", false)
  | 14 => ("HydrantRowsModel", "of", "[I", true)
  | 15 => ("HydrantRowsModel", "day", "[I", true)
  | 16 => ("HydrantRowsModel", "rest", "[I", true)
  | 17 => ("HydrantRowsModel", "flow", "[I", true)
  | 18 => ("HydrantRowsModel", "left", "[I", true)
  | 19 => ("HydrantRowsModel", "stops", "I", false)
  | 20 => ("HydrantRowsModel", "told", "[I", true)
  | 21 => ("HydrantRowsModel", "tried", "[I", true)
  | _ => ("HydrantRowsModel", "best", "[I", true)
def ct_M : Nat → FieldType := fun k => match k with
  | 0 => .int
  | 1 => .int
  | 2 => .array .int
  | 3 => .array .int
  | 4 => .array .int
  | 5 => .array .int
  | 6 => .array .int
  | 7 => .array .int
  | 8 => .array .int
  | 9 => .array .int
  | 10 => .array .boolean
  | 11 => .array .int
  | 12 => .boolean
  | 13 => .int
  | 14 => .array .int
  | 15 => .array .int
  | 16 => .array .int
  | 17 => .array .int
  | 18 => .array .int
  | 19 => .int
  | 20 => .array .int
  | 21 => .array .int
  | _ => .array .int
theorem cm_M : ∀ a, a < 23 → ∀ b, b < 23 → a ≠ b → (cf_M a).2.1 ≠ (cf_M b).2.1 := by decide +kernel
theorem co_M : ∀ k, k < 23 → parseFieldDescriptor (cf_M k).2.2.1 = some (ct_M k) := by decide +kernel
def cn_L : String := "HydrantRowsLaw"
abbrev cl_w : List vw_C := [(cn_C, cf_C, 8), (cn_H, cf_H, 11), (cn_T, cf_T, 6), (cn_O, cf_O, 2), (cn_K, cf_K, 2), (cn_A, cf_A, 5), (cn_M, cf_M, 23)]
abbrev bb_C_init : ByteArray := prog_1_method_1_code
def yy_C_init : MethodName := ⟨cn_C, "<init>", "()V"⟩
abbrev bb_C_hydrant : ByteArray := prog_1_method_2_code
def yy_C_hydrant : MethodName := ⟨cn_C, "hydrant", "(IIII)I"⟩
abbrev bb_C_limit : ByteArray := prog_1_method_3_code
def yy_C_limit : MethodName := ⟨cn_C, "limit", "(II)V"⟩
abbrev bb_C_allow : ByteArray := prog_1_method_4_code
def yy_C_allow : MethodName := ⟨cn_C, "allow", "(Z)V"⟩
abbrev bb_C_test : ByteArray := prog_1_method_5_code
def yy_C_test : MethodName := ⟨cn_C, "test", "(IIIII)I"⟩
abbrev bb_C_flow : ByteArray := prog_1_method_6_code
def yy_C_flow : MethodName := ⟨cn_C, "flow", "(III)I"⟩
abbrev bb_C_sort : ByteArray := prog_1_method_7_code
def yy_C_sort : MethodName := ⟨cn_C, "sort", "(I)I"⟩
abbrev bb_C_defect : ByteArray := prog_1_method_8_code
def yy_C_defect : MethodName := ⟨cn_C, "defect", "(II)V"⟩
abbrev bb_C_works : ByteArray := prog_1_method_9_code
def yy_C_works : MethodName := ⟨cn_C, "works", "(III)V"⟩
abbrev bb_C_season : ByteArray := prog_1_method_10_code
def yy_C_season : MethodName := ⟨cn_C, "season", "(IIZ)V"⟩
abbrev bb_C_usable : ByteArray := prog_1_method_11_code
def yy_C_usable : MethodName := ⟨cn_C, "usable", "(II)Z"⟩
abbrev bb_C_near : ByteArray := prog_1_method_12_code
def yy_C_near : MethodName := ⟨cn_C, "near", "(IIII)I"⟩
abbrev bb_C_both : ByteArray := prog_1_method_13_code
def yy_C_both : MethodName := ⟨cn_C, "both", "(III)I"⟩
abbrev bb_C_supply : ByteArray := prog_1_method_14_code
def yy_C_supply : MethodName := ⟨cn_C, "supply", "(IIIII)I"⟩
abbrev bb_C_round : ByteArray := prog_1_method_15_code
def yy_C_round : MethodName := ⟨cn_C, "round", "(JI)I"⟩
abbrev bb_C_stop : ByteArray := prog_1_method_16_code
def yy_C_stop : MethodName := ⟨cn_C, "stop", "(I)I"⟩
abbrev bb_C_overdue : ByteArray := prog_1_method_17_code
def yy_C_overdue : MethodName := ⟨cn_C, "overdue", "(III)I"⟩
abbrev bb_C_testAt : ByteArray := prog_1_method_18_code
def yy_C_testAt : MethodName := ⟨cn_C, "testAt", "(II)I"⟩
abbrev bb_C_hydrantAt : ByteArray := prog_1_method_19_code
def yy_C_hydrantAt : MethodName := ⟨cn_C, "hydrantAt", "(II)I"⟩
abbrev bb_C_known : ByteArray := prog_1_method_20_code
def yy_C_known : MethodName := ⟨cn_C, "known", "(I)LHydrantRows$Hydrant;"⟩
abbrev bb_C_countingTest : ByteArray := prog_1_method_21_code
def yy_C_countingTest : MethodName := ⟨cn_C, "countingTest", "(LHydrantRows$Hydrant;)LHydrantRows$Test;"⟩
abbrev bb_C_needTold : ByteArray := prog_1_method_22_code
def yy_C_needTold : MethodName := ⟨cn_C, "needTold", "(LHydrantRows$Test;I)V"⟩
abbrev bb_C_needMain : ByteArray := prog_1_method_23_code
def yy_C_needMain : MethodName := ⟨cn_C, "needMain", "(I)V"⟩
abbrev bb_C_needPlace : ByteArray := prog_1_method_24_code
def yy_C_needPlace : MethodName := ⟨cn_C, "needPlace", "(II)V"⟩
abbrev bb_C_needDay : ByteArray := prog_1_method_25_code
def yy_C_needDay : MethodName := ⟨cn_C, "needDay", "(I)V"⟩
abbrev bb_C_needPressure : ByteArray := prog_1_method_26_code
def yy_C_needPressure : MethodName := ⟨cn_C, "needPressure", "(I)V"⟩
abbrev bb_C_needFlow : ByteArray := prog_1_method_27_code
def yy_C_needFlow : MethodName := ⟨cn_C, "needFlow", "(I)V"⟩
abbrev bb_C_needNotBelowZero : ByteArray := prog_1_method_28_code
def yy_C_needNotBelowZero : MethodName := ⟨cn_C, "needNotBelowZero", "(I)V"⟩
abbrev bb_C_limitOf : ByteArray := prog_1_method_29_code
def yy_C_limitOf : MethodName := ⟨cn_C, "limitOf", "(I)I"⟩
abbrev bb_C_supplyOfMain : ByteArray := prog_1_method_30_code
def yy_C_supplyOfMain : MethodName := ⟨cn_C, "supplyOfMain", "(IIIIII)I"⟩
abbrev bb_C_toldStop : ByteArray := prog_1_method_31_code
def yy_C_toldStop : MethodName := ⟨cn_C, "toldStop", "(JI)I"⟩
abbrev bb_C_setOfStops : ByteArray := prog_1_method_32_code
def yy_C_setOfStops : MethodName := ⟨cn_C, "setOfStops", "(JI)J"⟩
abbrev bb_C_commonDivisor : ByteArray := prog_1_method_33_code
def yy_C_commonDivisor : MethodName := ⟨cn_C, "commonDivisor", "(II)I"⟩
abbrev bb_C_hoseLength : ByteArray := prog_1_method_34_code
def yy_C_hoseLength : MethodName := ⟨cn_C, "hoseLength", "(IIII)I"⟩
abbrev bb_H_init : ByteArray := prog_2_method_1_code
def yy_H_init : MethodName := ⟨cn_H, "<init>", "(IIIII)V"⟩
abbrev bb_H_take : ByteArray := prog_2_method_2_code
def yy_H_take : MethodName := ⟨cn_H, "take", "(LHydrantRows$Test;)V"⟩
abbrev bb_H_countingNumber : ByteArray := prog_2_method_3_code
def yy_H_countingNumber : MethodName := ⟨cn_H, "countingNumber", "()I"⟩
abbrev bb_H_hasWorksWithin : ByteArray := prog_2_method_4_code
def yy_H_hasWorksWithin : MethodName := ⟨cn_H, "hasWorksWithin", "(II)Z"⟩
abbrev bb_H_addWorks : ByteArray := prog_2_method_5_code
def yy_H_addWorks : MethodName := ⟨cn_H, "addWorks", "(II)Z"⟩
abbrev bb_H_setDry : ByteArray := prog_2_method_6_code
def yy_H_setDry : MethodName := ⟨cn_H, "setDry", "(IZ)V"⟩
abbrev bb_H_isDry : ByteArray := prog_2_method_7_code
def yy_H_isDry : MethodName := ⟨cn_H, "isDry", "(I)Z"⟩
abbrev bb_H_isUsable : ByteArray := prog_2_method_8_code
def yy_H_isUsable : MethodName := ⟨cn_H, "isUsable", "(IZ)Z"⟩
abbrev bb_H_hoseFrom : ByteArray := prog_2_method_9_code
def yy_H_hoseFrom : MethodName := ⟨cn_H, "hoseFrom", "(II)I"⟩
abbrev bb_H_givenAt : ByteArray := prog_2_method_10_code
def yy_H_givenAt : MethodName := ⟨cn_H, "givenAt", "(I)I"⟩
abbrev bb_H_isOverdue : ByteArray := prog_2_method_11_code
def yy_H_isOverdue : MethodName := ⟨cn_H, "isOverdue", "(II)Z"⟩
abbrev bb_H_overdueWeight : ByteArray := prog_2_method_12_code
def yy_H_overdueWeight : MethodName := ⟨cn_H, "overdueWeight", "()I"⟩
abbrev bb_T_init : ByteArray := prog_4_method_1_code
def yy_T_init : MethodName := ⟨cn_T, "<init>", "(IIIIII)V"⟩
abbrev bb_T_canTell : ByteArray := prog_4_method_2_code
def yy_T_canTell : MethodName := ⟨cn_T, "canTell", "(I)Z"⟩
abbrev bb_T_upperAt : ByteArray := prog_4_method_3_code
def yy_T_upperAt : MethodName := ⟨cn_T, "upperAt", "(I)I"⟩
abbrev bb_T_lowerAt : ByteArray := prog_4_method_4_code
def yy_T_lowerAt : MethodName := ⟨cn_T, "lowerAt", "(I)I"⟩
abbrev bb_T_wholeAt : ByteArray := prog_4_method_5_code
def yy_T_wholeAt : MethodName := ⟨cn_T, "wholeAt", "(I)I"⟩
abbrev bb_O_init : ByteArray := prog_6_method_1_code
def yy_O_init : MethodName := ⟨cn_O, "<init>", "(II)V"⟩
abbrev bb_O_meet : ByteArray := prog_6_method_2_code
def yy_O_meet : MethodName := ⟨cn_O, "meet", "(II)Z"⟩
abbrev bb_K_init : ByteArray := prog_3_method_1_code
def yy_K_init : MethodName := ⟨cn_K, "<init>", "()V"⟩
abbrev bb_K_clear : ByteArray := prog_3_method_2_code
def yy_K_clear : MethodName := ⟨cn_K, "clear", "()V"⟩
abbrev bb_K_insert : ByteArray := prog_3_method_3_code
def yy_K_insert : MethodName := ⟨cn_K, "insert", "(II)V"⟩
abbrev bb_K_numberAt : ByteArray := prog_3_method_4_code
def yy_K_numberAt : MethodName := ⟨cn_K, "numberAt", "(I)I"⟩
abbrev bb_A_init : ByteArray := prog_5_method_1_code
def yy_A_init : MethodName := ⟨cn_A, "<init>", "()V"⟩
abbrev bb_A_clear : ByteArray := prog_5_method_2_code
def yy_A_clear : MethodName := ⟨cn_A, "clear", "()V"⟩
abbrev bb_A_choose : ByteArray := prog_5_method_3_code
def yy_A_choose : MethodName := ⟨cn_A, "choose", "(LHydrantRows$Hydrant;)V"⟩
abbrev bb_A_leastMetres : ByteArray := prog_5_method_4_code
def yy_A_leastMetres : MethodName := ⟨cn_A, "leastMetres", "()I"⟩
abbrev bb_A_stopAt : ByteArray := prog_5_method_5_code
def yy_A_stopAt : MethodName := ⟨cn_A, "stopAt", "(I)I"⟩
abbrev bb_A_goOn : ByteArray := prog_5_method_6_code
def yy_A_goOn : MethodName := ⟨cn_A, "goOn", "(IIIII)V"⟩
abbrev bb_A_keepWay : ByteArray := prog_5_method_7_code
def yy_A_keepWay : MethodName := ⟨cn_A, "keepWay", "(I)V"⟩
abbrev bb_M_init : ByteArray := prog_8_method_1_code
def yy_M_init : MethodName := ⟨cn_M, "<init>", "()V"⟩
abbrev bb_M_thrown : ByteArray := prog_8_method_2_code
def yy_M_thrown : MethodName := ⟨cn_M, "thrown", "()I"⟩
abbrev bb_M_in : ByteArray := prog_8_method_3_code
def yy_M_in : MethodName := ⟨cn_M, "in", "(III)Z"⟩
abbrev bb_M_goes : ByteArray := prog_8_method_4_code
def yy_M_goes : MethodName := ⟨cn_M, "goes", "(ZZZZ)Z"⟩
abbrev bb_M_isHydrant : ByteArray := prog_8_method_5_code
def yy_M_isHydrant : MethodName := ⟨cn_M, "isHydrant", "(I)Z"⟩
abbrev bb_M_isPlace : ByteArray := prog_8_method_6_code
def yy_M_isPlace : MethodName := ⟨cn_M, "isPlace", "(II)Z"⟩
abbrev bb_M_isDay : ByteArray := prog_8_method_7_code
def yy_M_isDay : MethodName := ⟨cn_M, "isDay", "(I)Z"⟩
abbrev bb_M_isPressure : ByteArray := prog_8_method_8_code
def yy_M_isPressure : MethodName := ⟨cn_M, "isPressure", "(I)Z"⟩
abbrev bb_M_isFlow : ByteArray := prog_8_method_9_code
def yy_M_isFlow : MethodName := ⟨cn_M, "isFlow", "(I)Z"⟩
abbrev bb_M_hydrant : ByteArray := prog_8_method_10_code
def yy_M_hydrant : MethodName := ⟨cn_M, "hydrant", "(IIII)I"⟩
abbrev bb_M_limit : ByteArray := prog_8_method_11_code
def yy_M_limit : MethodName := ⟨cn_M, "limit", "(II)V"⟩
abbrev bb_M_allow : ByteArray := prog_8_method_12_code
def yy_M_allow : MethodName := ⟨cn_M, "allow", "(Z)V"⟩
abbrev bb_M_test : ByteArray := prog_8_method_13_code
def yy_M_test : MethodName := ⟨cn_M, "test", "(IIIII)I"⟩
abbrev bb_M_counts : ByteArray := prog_8_method_14_code
def yy_M_counts : MethodName := ⟨cn_M, "counts", "(I)I"⟩
abbrev bb_M_canTell : ByteArray := prog_8_method_15_code
def yy_M_canTell : MethodName := ⟨cn_M, "canTell", "(II)Z"⟩
abbrev bb_M_up : ByteArray := prog_8_method_16_code
def yy_M_up : MethodName := ⟨cn_M, "up", "(II)I"⟩
abbrev bb_M_down : ByteArray := prog_8_method_17_code
def yy_M_down : MethodName := ⟨cn_M, "down", "(II)I"⟩
abbrev bb_M_flow : ByteArray := prog_8_method_18_code
def yy_M_flow : MethodName := ⟨cn_M, "flow", "(III)I"⟩
abbrev bb_M_sort : ByteArray := prog_8_method_19_code
def yy_M_sort : MethodName := ⟨cn_M, "sort", "(I)I"⟩
abbrev bb_M_defect : ByteArray := prog_8_method_20_code
def yy_M_defect : MethodName := ⟨cn_M, "defect", "(II)V"⟩
abbrev bb_M_works : ByteArray := prog_8_method_21_code
def yy_M_works : MethodName := ⟨cn_M, "works", "(III)V"⟩
abbrev bb_M_season : ByteArray := prog_8_method_22_code
def yy_M_season : MethodName := ⟨cn_M, "season", "(IIZ)V"⟩
abbrev bb_M_isUsable : ByteArray := prog_8_method_23_code
def yy_M_isUsable : MethodName := ⟨cn_M, "isUsable", "(II)Z"⟩
abbrev bb_M_usable : ByteArray := prog_8_method_24_code
def yy_M_usable : MethodName := ⟨cn_M, "usable", "(II)Z"⟩
abbrev bb_M_size : ByteArray := prog_8_method_25_code
def yy_M_size : MethodName := ⟨cn_M, "size", "(I)I"⟩
abbrev bb_M_hose : ByteArray := prog_8_method_26_code
def yy_M_hose : MethodName := ⟨cn_M, "hose", "(III)I"⟩
abbrev bb_M_near : ByteArray := prog_8_method_27_code
def yy_M_near : MethodName := ⟨cn_M, "near", "(IIII)I"⟩
abbrev bb_M_whole : ByteArray := prog_8_method_28_code
def yy_M_whole : MethodName := ⟨cn_M, "whole", "(II)I"⟩
abbrev bb_M_both : ByteArray := prog_8_method_29_code
def yy_M_both : MethodName := ⟨cn_M, "both", "(III)I"⟩
abbrev bb_M_supply : ByteArray := prog_8_method_30_code
def yy_M_supply : MethodName := ⟨cn_M, "supply", "(IIIII)I"⟩
abbrev bb_M_metres : ByteArray := prog_8_method_31_code
def yy_M_metres : MethodName := ⟨cn_M, "metres", "(I)I"⟩
abbrev bb_M_arranges : ByteArray := prog_8_method_32_code
def yy_M_arranges : MethodName := ⟨cn_M, "arranges", "(II)Z"⟩
abbrev bb_M_isAhead : ByteArray := prog_8_method_33_code
def yy_M_isAhead : MethodName := ⟨cn_M, "isAhead", "(I)Z"⟩
abbrev bb_M_round : ByteArray := prog_8_method_34_code
def yy_M_round : MethodName := ⟨cn_M, "round", "(JI)I"⟩
abbrev bb_M_stop : ByteArray := prog_8_method_35_code
def yy_M_stop : MethodName := ⟨cn_M, "stop", "(I)I"⟩
abbrev bb_M_late : ByteArray := prog_8_method_36_code
def yy_M_late : MethodName := ⟨cn_M, "late", "(III)I"⟩
abbrev bb_M_overdue : ByteArray := prog_8_method_37_code
def yy_M_overdue : MethodName := ⟨cn_M, "overdue", "(III)I"⟩
abbrev bb_M_testAt : ByteArray := prog_8_method_38_code
def yy_M_testAt : MethodName := ⟨cn_M, "testAt", "(II)I"⟩
abbrev bb_M_hydrantAt : ByteArray := prog_8_method_39_code
def yy_M_hydrantAt : MethodName := ⟨cn_M, "hydrantAt", "(II)I"⟩
abbrev bb_L_hydrant : ByteArray := method_3_code
def yy_L_hydrant : MethodName := ⟨cn_L, "hydrant", "(LHydrantRows;IIII[J)I"⟩
abbrev bb_L_limit : ByteArray := method_4_code
def yy_L_limit : MethodName := ⟨cn_L, "limit", "(LHydrantRows;II)I"⟩
abbrev bb_L_test : ByteArray := method_5_code
def yy_L_test : MethodName := ⟨cn_L, "test", "(LHydrantRows;IIIII[J)I"⟩
abbrev bb_L_flow : ByteArray := method_6_code
def yy_L_flow : MethodName := ⟨cn_L, "flow", "(LHydrantRows;III[J)I"⟩
abbrev bb_L_sort : ByteArray := method_7_code
def yy_L_sort : MethodName := ⟨cn_L, "sort", "(LHydrantRows;I[J)I"⟩
abbrev bb_L_defect : ByteArray := method_8_code
def yy_L_defect : MethodName := ⟨cn_L, "defect", "(LHydrantRows;II)I"⟩
abbrev bb_L_works : ByteArray := method_9_code
def yy_L_works : MethodName := ⟨cn_L, "works", "(LHydrantRows;III)I"⟩
abbrev bb_L_season : ByteArray := method_10_code
def yy_L_season : MethodName := ⟨cn_L, "season", "(LHydrantRows;IIZ)I"⟩
abbrev bb_L_usable : ByteArray := method_11_code
def yy_L_usable : MethodName := ⟨cn_L, "usable", "(LHydrantRows;II[J)I"⟩
abbrev bb_L_near : ByteArray := method_12_code
def yy_L_near : MethodName := ⟨cn_L, "near", "(LHydrantRows;IIII[J)I"⟩
abbrev bb_L_both : ByteArray := method_13_code
def yy_L_both : MethodName := ⟨cn_L, "both", "(LHydrantRows;III[J)I"⟩
abbrev bb_L_supply : ByteArray := method_14_code
def yy_L_supply : MethodName := ⟨cn_L, "supply", "(LHydrantRows;IIIII[J)I"⟩
abbrev bb_L_round : ByteArray := method_15_code
def yy_L_round : MethodName := ⟨cn_L, "round", "(LHydrantRows;JI[J)I"⟩
abbrev bb_L_stop : ByteArray := method_16_code
def yy_L_stop : MethodName := ⟨cn_L, "stop", "(LHydrantRows;I[J)I"⟩
abbrev bb_L_overdue : ByteArray := method_17_code
def yy_L_overdue : MethodName := ⟨cn_L, "overdue", "(LHydrantRows;III[J)I"⟩
abbrev bb_L_testAt : ByteArray := method_18_code
def yy_L_testAt : MethodName := ⟨cn_L, "testAt", "(LHydrantRows;II[J)I"⟩
abbrev bb_L_hydrantAt : ByteArray := method_19_code
def yy_L_hydrantAt : MethodName := ⟨cn_L, "hydrantAt", "(LHydrantRows;II[J)I"⟩
abbrev bb_L_law : ByteArray := code
def yy_L_law : MethodName := ⟨cn_L, "law", "([I)Z"⟩
def gw : List Cond := lw_tbl.filter goodWord
theorem gw_good : ∀ w ∈ gw, goodWord w = true := fun w h => (List.mem_filter.mp h).2
theorem gw_in : ∀ w ∈ gw, w ∈ lw_tbl := fun w h => (List.mem_filter.mp h).1
theorem gw_1 {w : Cond} (h : w ∈ tables_1_1) (g : goodWord w = true) : w ∈ gw := List.mem_filter.mpr ⟨List.mem_append_right _ (List.mem_append_left _ h), g⟩
theorem gw_2 {w : Cond} (h : w ∈ tables_1_2) (g : goodWord w = true) : w ∈ gw := List.mem_filter.mpr ⟨List.mem_append_right _ (List.mem_append_right _ (List.mem_append_left _ h)), g⟩
theorem gw_3 {w : Cond} (h : w ∈ tables_1_3) (g : goodWord w = true) : w ∈ gw := List.mem_filter.mpr ⟨List.mem_append_right _ (List.mem_append_right _ (List.mem_append_right _ (List.mem_append_left _ h))), g⟩
theorem gw_4 {w : Cond} (h : w ∈ tables_1_4) (g : goodWord w = true) : w ∈ gw := List.mem_filter.mpr ⟨List.mem_append_right _ (List.mem_append_right _ (List.mem_append_right _ (List.mem_append_right _ h))), g⟩
theorem gw_0 {w : Cond} (h : w ∈ k2_sels lw_privs) (g : goodWord w = true) : w ∈ gw := List.mem_filter.mpr ⟨List.mem_append_left _ h, g⟩
theorem gn_L : Cond.initialized cn_L ∈ gw := gw_1 (List.mem_of_getElem? (i := 0) (by decide +kernel)) rfl
theorem gn_C : Cond.initialized cn_C ∈ gw := gw_1 (List.mem_of_getElem? (i := 1) (by decide +kernel)) rfl
theorem gn_K : Cond.initialized cn_K ∈ gw := gw_1 (List.mem_of_getElem? (i := 2) (by decide +kernel)) rfl
theorem gn_A : Cond.initialized cn_A ∈ gw := gw_1 (List.mem_of_getElem? (i := 3) (by decide +kernel)) rfl
theorem gn_M : Cond.initialized cn_M ∈ gw := gw_1 (List.mem_of_getElem? (i := 4) (by decide +kernel)) rfl
theorem gn_Throwable : Cond.initialized "java/lang/Throwable" ∈ gw := gw_1 (List.mem_of_getElem? (i := 5) (by decide +kernel)) rfl
theorem gn_Exception : Cond.initialized "java/lang/Exception" ∈ gw := gw_1 (List.mem_of_getElem? (i := 6) (by decide +kernel)) rfl
theorem gn_RuntimeException : Cond.initialized "java/lang/RuntimeException" ∈ gw := gw_1 (List.mem_of_getElem? (i := 7) (by decide +kernel)) rfl
theorem gn_IllegalArgumentException : Cond.initialized "java/lang/IllegalArgumentException" ∈ gw := gw_1 (List.mem_of_getElem? (i := 8) (by decide +kernel)) rfl
theorem gn_IndexOutOfBoundsException : Cond.initialized "java/lang/IndexOutOfBoundsException" ∈ gw := gw_1 (List.mem_of_getElem? (i := 9) (by decide +kernel)) rfl
theorem gn_UnsupportedOperationException : Cond.initialized "java/lang/UnsupportedOperationException" ∈ gw := gw_1 (List.mem_of_getElem? (i := 10) (by decide +kernel)) rfl
theorem gn_H : Cond.initialized cn_H ∈ gw := gw_1 (List.mem_of_getElem? (i := 11) (by decide +kernel)) rfl
theorem gn_IllegalStateException : Cond.initialized "java/lang/IllegalStateException" ∈ gw := gw_1 (List.mem_of_getElem? (i := 12) (by decide +kernel)) rfl
theorem gn_T : Cond.initialized cn_T ∈ gw := gw_1 (List.mem_of_getElem? (i := 13) (by decide +kernel)) rfl
theorem gn_ArithmeticException : Cond.initialized "java/lang/ArithmeticException" ∈ gw := gw_1 (List.mem_of_getElem? (i := 14) (by decide +kernel)) rfl
theorem gn_Math : Cond.initialized "java/lang/Math" ∈ gw := gw_1 (List.mem_of_getElem? (i := 15) (by decide +kernel)) rfl
theorem gn_O : Cond.initialized cn_O ∈ gw := gw_1 (List.mem_of_getElem? (i := 16) (by decide +kernel)) rfl
theorem gk_L_8 : Cond.classLink cn_L 8 cn_C ∈ gw := gw_1 (List.mem_of_getElem? (i := 17) (by decide +kernel)) rfl
theorem gx_C : Cond.instantiable cn_C 8 ∈ gw := gw_1 (List.mem_of_getElem? (i := 18) (by decide +kernel)) rfl
theorem gm_L_80 : Cond.methodLink cn_L 80 yy_C_init ∈ gw := gw_1 (List.mem_of_getElem? (i := 19) (by decide +kernel)) rfl
theorem gi_C_init : Cond.instanceMethod yy_C_init ∈ gw := gw_1 (List.mem_of_getElem? (i := 20) (by decide +kernel)) rfl
theorem gc_C_init : Cond.code yy_C_init bb_C_init 2 none ∈ gw := gw_1 (List.mem_of_getElem? (i := 21) (by decide +kernel)) rfl
theorem gm_C_3 : Cond.methodLink cn_C 3 objectInit ∈ gw := gw_1 (List.mem_of_getElem? (i := 22) (by decide +kernel)) rfl
theorem gi_objectInit : Cond.instanceMethod objectInit ∈ gw := gw_1 (List.mem_of_getElem? (i := 23) (by decide +kernel)) rfl
theorem gc_objectInit : Cond.code objectInit ⟨#[0xb1]⟩ 1 none ∈ gw := gw_1 (List.mem_of_getElem? (i := 24) (by decide +kernel)) rfl
theorem gk_C_9 : Cond.classLink cn_C 9 cn_H ∈ gw := gw_1 (List.mem_of_getElem? (i := 25) (by decide +kernel)) rfl
theorem gk_C_15 : Cond.classLink cn_C 15 cn_T ∈ gw := gw_1 (List.mem_of_getElem? (i := 27) (by decide +kernel)) rfl
theorem gk_C_25 : Cond.classLink cn_C 25 cn_K ∈ gw := gw_1 (List.mem_of_getElem? (i := 29) (by decide +kernel)) rfl
theorem gx_K : Cond.instantiable cn_K 2 ∈ gw := gw_1 (List.mem_of_getElem? (i := 30) (by decide +kernel)) rfl
theorem gi_K_init : Cond.instanceMethod yy_K_init ∈ gw := gw_1 (List.mem_of_getElem? (i := 32) (by decide +kernel)) rfl
theorem gc_K_init : Cond.code yy_K_init bb_K_init 1 none ∈ gw := gw_1 (List.mem_of_getElem? (i := 33) (by decide +kernel)) rfl
theorem gm_K_3 : Cond.methodLink cn_K 3 objectInit ∈ gw := gw_1 (List.mem_of_getElem? (i := 34) (by decide +kernel)) rfl
theorem gf_K_9 : Cond.fieldLink cn_K 9 cn_K "keys" "[I" ∈ gw := gw_1 (List.mem_of_getElem? (i := 35) (by decide +kernel)) rfl
theorem gf_K_15 : Cond.fieldLink cn_K 15 cn_K "size" "I" ∈ gw := gw_1 (List.mem_of_getElem? (i := 36) (by decide +kernel)) rfl
theorem gar_int : Cond.arrayClass .int ∈ gw := gw_1 (List.mem_of_getElem? (i := 42) (by decide +kernel)) rfl
theorem gk_C_32 : Cond.classLink cn_C 32 cn_A ∈ gw := gw_1 (List.mem_of_getElem? (i := 43) (by decide +kernel)) rfl
theorem gx_A : Cond.instantiable cn_A 5 ∈ gw := gw_1 (List.mem_of_getElem? (i := 44) (by decide +kernel)) rfl
theorem gi_A_init : Cond.instanceMethod yy_A_init ∈ gw := gw_1 (List.mem_of_getElem? (i := 46) (by decide +kernel)) rfl
theorem gc_A_init : Cond.code yy_A_init bb_A_init 1 none ∈ gw := gw_1 (List.mem_of_getElem? (i := 47) (by decide +kernel)) rfl
theorem gm_A_3 : Cond.methodLink cn_A 3 objectInit ∈ gw := gw_1 (List.mem_of_getElem? (i := 48) (by decide +kernel)) rfl
theorem gk_A_9 : Cond.classLink cn_A 9 cn_H ∈ gw := gw_1 (List.mem_of_getElem? (i := 49) (by decide +kernel)) rfl
theorem gf_A_11 : Cond.fieldLink cn_A 11 cn_A "chosen" "[LHydrantRows$Hydrant;" ∈ gw := gw_1 (List.mem_of_getElem? (i := 50) (by decide +kernel)) rfl
theorem gf_A_17 : Cond.fieldLink cn_A 17 cn_A "way" "[I" ∈ gw := gw_1 (List.mem_of_getElem? (i := 51) (by decide +kernel)) rfl
theorem gf_A_21 : Cond.fieldLink cn_A 21 cn_A "bestWay" "[I" ∈ gw := gw_1 (List.mem_of_getElem? (i := 52) (by decide +kernel)) rfl
theorem gf_A_24 : Cond.fieldLink cn_A 24 cn_A "count" "I" ∈ gw := gw_1 (List.mem_of_getElem? (i := 53) (by decide +kernel)) rfl
theorem gf_A_28 : Cond.fieldLink cn_A 28 cn_A "least" "I" ∈ gw := gw_1 (List.mem_of_getElem? (i := 54) (by decide +kernel)) rfl
theorem gf_C_11 : Cond.fieldLink cn_C 11 cn_C "hydrantRow" "[LHydrantRows$Hydrant;" ∈ gw := gw_1 (List.mem_of_getElem? (i := 66) (by decide +kernel)) rfl
theorem gf_C_17 : Cond.fieldLink cn_C 17 cn_C "testRow" "[LHydrantRows$Test;" ∈ gw := gw_1 (List.mem_of_getElem? (i := 67) (by decide +kernel)) rfl
theorem gf_C_21 : Cond.fieldLink cn_C 21 cn_C "limits" "[I" ∈ gw := gw_1 (List.mem_of_getElem? (i := 68) (by decide +kernel)) rfl
theorem gf_C_28 : Cond.fieldLink cn_C 28 cn_C "ranking" "LHydrantRows$Ranking;" ∈ gw := gw_1 (List.mem_of_getElem? (i := 69) (by decide +kernel)) rfl
theorem gf_C_35 : Cond.fieldLink cn_C 35 cn_C "walk" "LHydrantRows$Walk;" ∈ gw := gw_1 (List.mem_of_getElem? (i := 70) (by decide +kernel)) rfl
theorem gf_C_39 : Cond.fieldLink cn_C 39 cn_C "hydrantCount" "I" ∈ gw := gw_1 (List.mem_of_getElem? (i := 71) (by decide +kernel)) rfl
theorem gf_C_43 : Cond.fieldLink cn_C 43 cn_C "testCount" "I" ∈ gw := gw_1 (List.mem_of_getElem? (i := 72) (by decide +kernel)) rfl
theorem gf_C_46 : Cond.fieldLink cn_C 46 cn_C "privateAllowed" "Z" ∈ gw := gw_1 (List.mem_of_getElem? (i := 73) (by decide +kernel)) rfl
theorem gm_L_98 : Cond.methodLink cn_L 98 yy_C_allow ∈ gw := gw_1 (List.mem_of_getElem? (i := 91) (by decide +kernel)) rfl
theorem gi_C_allow : Cond.instanceMethod yy_C_allow ∈ gw := gw_1 (List.mem_of_getElem? (i := 92) (by decide +kernel)) rfl
theorem gs_C_allow : Cond.selects cn_C yy_C_allow yy_C_allow ∈ gw := gw_1 (List.mem_of_getElem? (i := 93) (by decide +kernel)) rfl
theorem gc_C_allow : Cond.code yy_C_allow bb_C_allow 2 none ∈ gw := gw_1 (List.mem_of_getElem? (i := 94) (by decide +kernel)) rfl
theorem gm_L_84 : Cond.methodLink cn_L 84 yy_L_hydrant ∈ gw := gw_1 (List.mem_of_getElem? (i := 95) (by decide +kernel)) rfl
theorem gt_L_hydrant : Cond.static yy_L_hydrant ∈ gw := gw_1 (List.mem_of_getElem? (i := 96) (by decide +kernel)) rfl
theorem gk_L_13 : Cond.classLink cn_L 13 "java/lang/IllegalArgumentException" ∈ gw := gw_1 (List.mem_of_getElem? (i := 98) (by decide +kernel)) rfl
theorem gk_L_15 : Cond.classLink cn_L 15 "java/lang/IndexOutOfBoundsException" ∈ gw := gw_1 (List.mem_of_getElem? (i := 99) (by decide +kernel)) rfl
theorem gk_L_17 : Cond.classLink cn_L 17 "java/lang/UnsupportedOperationException" ∈ gw := gw_1 (List.mem_of_getElem? (i := 100) (by decide +kernel)) rfl
theorem gm_L_7 : Cond.methodLink cn_L 7 yy_C_hydrant ∈ gw := gw_1 (List.mem_of_getElem? (i := 101) (by decide +kernel)) rfl
theorem gi_C_hydrant : Cond.instanceMethod yy_C_hydrant ∈ gw := gw_1 (List.mem_of_getElem? (i := 102) (by decide +kernel)) rfl
theorem gs_C_hydrant : Cond.selects cn_C yy_C_hydrant yy_C_hydrant ∈ gw := gw_1 (List.mem_of_getElem? (i := 103) (by decide +kernel)) rfl
theorem gc_C_hydrant : Cond.code yy_C_hydrant bb_C_hydrant 6 (some .int) ∈ gw := gw_1 (List.mem_of_getElem? (i := 104) (by decide +kernel)) rfl
theorem gm_C_50 : Cond.methodLink cn_C 50 yy_C_needMain ∈ gw := gw_1 (List.mem_of_getElem? (i := 105) (by decide +kernel)) rfl
theorem gi_C_needMain : Cond.instanceMethod yy_C_needMain ∈ gw := gw_1 (List.mem_of_getElem? (i := 107) (by decide +kernel)) rfl
theorem gc_C_needMain : Cond.code yy_C_needMain bb_C_needMain 2 none ∈ gw := gw_1 (List.mem_of_getElem? (i := 108) (by decide +kernel)) rfl
theorem gk_C_54 : Cond.classLink cn_C 54 "java/lang/IllegalArgumentException" ∈ gw := gw_1 (List.mem_of_getElem? (i := 109) (by decide +kernel)) rfl
theorem gar_byte : Cond.arrayClass .byte ∈ gw := gw_1 (List.mem_of_getElem? (i := 178) (by decide +kernel)) rfl
theorem gm_C_61 : Cond.methodLink cn_C 61 yy_C_needPlace ∈ gw := gw_1 (List.mem_of_getElem? (i := 180) (by decide +kernel)) rfl
theorem gt_C_needPlace : Cond.static yy_C_needPlace ∈ gw := gw_1 (List.mem_of_getElem? (i := 181) (by decide +kernel)) rfl
theorem gc_C_needPlace : Cond.code yy_C_needPlace bb_C_needPlace 2 none ∈ gw := gw_1 (List.mem_of_getElem? (i := 182) (by decide +kernel)) rfl
theorem gq_C_274 : Cond.constant cn_C 274 (-50000) ∈ gw := gw_1 (List.mem_of_getElem? (i := 183) (by decide +kernel)) rfl
theorem gq_C_275 : Cond.constant cn_C 275 (50000) ∈ gw := gw_1 (List.mem_of_getElem? (i := 184) (by decide +kernel)) rfl
theorem gk_C_132 : Cond.classLink cn_C 132 "java/lang/IndexOutOfBoundsException" ∈ gw := gw_1 (List.mem_of_getElem? (i := 185) (by decide +kernel)) rfl
theorem gk_C_65 : Cond.classLink cn_C 65 "java/lang/UnsupportedOperationException" ∈ gw := gw_1 (List.mem_of_getElem? (i := 201) (by decide +kernel)) rfl
theorem gx_H : Cond.instantiable cn_H 11 ∈ gw := gw_1 (List.mem_of_getElem? (i := 217) (by decide +kernel)) rfl
theorem gm_C_70 : Cond.methodLink cn_C 70 yy_H_init ∈ gw := gw_1 (List.mem_of_getElem? (i := 218) (by decide +kernel)) rfl
theorem gi_H_init : Cond.instanceMethod yy_H_init ∈ gw := gw_1 (List.mem_of_getElem? (i := 219) (by decide +kernel)) rfl
theorem gc_H_init : Cond.code yy_H_init bb_H_init 6 none ∈ gw := gw_1 (List.mem_of_getElem? (i := 220) (by decide +kernel)) rfl
theorem gm_H_3 : Cond.methodLink cn_H 3 objectInit ∈ gw := gw_1 (List.mem_of_getElem? (i := 221) (by decide +kernel)) rfl
theorem gk_H_9 : Cond.classLink cn_H 9 cn_O ∈ gw := gw_1 (List.mem_of_getElem? (i := 222) (by decide +kernel)) rfl
theorem gf_H_34 : Cond.fieldLink cn_H 34 cn_H "number" "I" ∈ gw := gw_1 (List.mem_of_getElem? (i := 224) (by decide +kernel)) rfl
theorem gf_A_44 : Cond.fieldLink cn_A 44 cn_H "number" "I" ∈ gw := gw_1 (List.mem_of_getElem? (i := 225) (by decide +kernel)) rfl
theorem gf_C_177 : Cond.fieldLink cn_C 177 cn_H "number" "I" ∈ gw := gw_1 (List.mem_of_getElem? (i := 226) (by decide +kernel)) rfl
theorem gf_H_37 : Cond.fieldLink cn_H 37 cn_H "x" "I" ∈ gw := gw_1 (List.mem_of_getElem? (i := 227) (by decide +kernel)) rfl
theorem gf_A_47 : Cond.fieldLink cn_A 47 cn_H "x" "I" ∈ gw := gw_1 (List.mem_of_getElem? (i := 228) (by decide +kernel)) rfl
theorem gf_H_40 : Cond.fieldLink cn_H 40 cn_H "y" "I" ∈ gw := gw_1 (List.mem_of_getElem? (i := 229) (by decide +kernel)) rfl
theorem gf_A_50 : Cond.fieldLink cn_A 50 cn_H "y" "I" ∈ gw := gw_1 (List.mem_of_getElem? (i := 230) (by decide +kernel)) rfl
theorem gf_H_43 : Cond.fieldLink cn_H 43 cn_H "main" "I" ∈ gw := gw_1 (List.mem_of_getElem? (i := 231) (by decide +kernel)) rfl
theorem gf_C_188 : Cond.fieldLink cn_C 188 cn_H "main" "I" ∈ gw := gw_1 (List.mem_of_getElem? (i := 232) (by decide +kernel)) rfl
theorem gf_H_46 : Cond.fieldLink cn_H 46 cn_H "kind" "I" ∈ gw := gw_1 (List.mem_of_getElem? (i := 233) (by decide +kernel)) rfl
theorem gf_C_155 : Cond.fieldLink cn_C 155 cn_H "kind" "I" ∈ gw := gw_1 (List.mem_of_getElem? (i := 234) (by decide +kernel)) rfl
theorem gf_H_11 : Cond.fieldLink cn_H 11 cn_H "worksRow" "[LHydrantRows$Works;" ∈ gw := gw_1 (List.mem_of_getElem? (i := 235) (by decide +kernel)) rfl
theorem gf_H_17 : Cond.fieldLink cn_H 17 cn_H "worksCount" "I" ∈ gw := gw_1 (List.mem_of_getElem? (i := 236) (by decide +kernel)) rfl
theorem gf_C_252 : Cond.fieldLink cn_C 252 cn_H "worksCount" "I" ∈ gw := gw_1 (List.mem_of_getElem? (i := 237) (by decide +kernel)) rfl
theorem gf_H_21 : Cond.fieldLink cn_H 21 cn_H "defect" "I" ∈ gw := gw_1 (List.mem_of_getElem? (i := 238) (by decide +kernel)) rfl
theorem gf_C_137 : Cond.fieldLink cn_C 137 cn_H "defect" "I" ∈ gw := gw_1 (List.mem_of_getElem? (i := 239) (by decide +kernel)) rfl
theorem gf_H_24 : Cond.fieldLink cn_H 24 cn_H "dryMonths" "I" ∈ gw := gw_2 (List.mem_of_getElem? (i := 0) (by decide +kernel)) rfl
theorem gf_H_27 : Cond.fieldLink cn_H 27 cn_H "testCount" "I" ∈ gw := gw_2 (List.mem_of_getElem? (i := 1) (by decide +kernel)) rfl
theorem gf_C_251 : Cond.fieldLink cn_C 251 cn_H "testCount" "I" ∈ gw := gw_2 (List.mem_of_getElem? (i := 2) (by decide +kernel)) rfl
theorem gf_H_30 : Cond.fieldLink cn_H 30 cn_H "counting" "LHydrantRows$Test;" ∈ gw := gw_2 (List.mem_of_getElem? (i := 3) (by decide +kernel)) rfl
theorem gf_C_257 : Cond.fieldLink cn_C 257 cn_H "counting" "LHydrantRows$Test;" ∈ gw := gw_2 (List.mem_of_getElem? (i := 4) (by decide +kernel)) rfl
theorem gm_L_94 : Cond.methodLink cn_L 94 yy_L_limit ∈ gw := gw_2 (List.mem_of_getElem? (i := 28) (by decide +kernel)) rfl
theorem gt_L_limit : Cond.static yy_L_limit ∈ gw := gw_2 (List.mem_of_getElem? (i := 29) (by decide +kernel)) rfl
theorem gm_L_19 : Cond.methodLink cn_L 19 yy_C_limit ∈ gw := gw_2 (List.mem_of_getElem? (i := 31) (by decide +kernel)) rfl
theorem gi_C_limit : Cond.instanceMethod yy_C_limit ∈ gw := gw_2 (List.mem_of_getElem? (i := 32) (by decide +kernel)) rfl
theorem gs_C_limit : Cond.selects cn_C yy_C_limit yy_C_limit ∈ gw := gw_2 (List.mem_of_getElem? (i := 33) (by decide +kernel)) rfl
theorem gc_C_limit : Cond.code yy_C_limit bb_C_limit 3 none ∈ gw := gw_2 (List.mem_of_getElem? (i := 34) (by decide +kernel)) rfl
theorem gm_C_73 : Cond.methodLink cn_C 73 yy_C_needFlow ∈ gw := gw_2 (List.mem_of_getElem? (i := 35) (by decide +kernel)) rfl
theorem gt_C_needFlow : Cond.static yy_C_needFlow ∈ gw := gw_2 (List.mem_of_getElem? (i := 36) (by decide +kernel)) rfl
theorem gc_C_needFlow : Cond.code yy_C_needFlow bb_C_needFlow 1 none ∈ gw := gw_2 (List.mem_of_getElem? (i := 37) (by decide +kernel)) rfl
theorem gm_L_103 : Cond.methodLink cn_L 103 yy_L_test ∈ gw := gw_2 (List.mem_of_getElem? (i := 39) (by decide +kernel)) rfl
theorem gt_L_test : Cond.static yy_L_test ∈ gw := gw_2 (List.mem_of_getElem? (i := 40) (by decide +kernel)) rfl
theorem gk_L_27 : Cond.classLink cn_L 27 "java/lang/IllegalStateException" ∈ gw := gw_2 (List.mem_of_getElem? (i := 42) (by decide +kernel)) rfl
theorem gm_L_23 : Cond.methodLink cn_L 23 yy_C_test ∈ gw := gw_2 (List.mem_of_getElem? (i := 43) (by decide +kernel)) rfl
theorem gi_C_test : Cond.instanceMethod yy_C_test ∈ gw := gw_2 (List.mem_of_getElem? (i := 44) (by decide +kernel)) rfl
theorem gs_C_test : Cond.selects cn_C yy_C_test yy_C_test ∈ gw := gw_2 (List.mem_of_getElem? (i := 45) (by decide +kernel)) rfl
theorem gc_C_test : Cond.code yy_C_test bb_C_test 9 (some .int) ∈ gw := gw_2 (List.mem_of_getElem? (i := 46) (by decide +kernel)) rfl
theorem gm_C_76 : Cond.methodLink cn_C 76 yy_C_known ∈ gw := gw_2 (List.mem_of_getElem? (i := 47) (by decide +kernel)) rfl
theorem gi_C_known : Cond.instanceMethod yy_C_known ∈ gw := gw_2 (List.mem_of_getElem? (i := 49) (by decide +kernel)) rfl
theorem gc_C_known : Cond.code yy_C_known bb_C_known 3 (some (.object "HydrantRows$Hydrant")) ∈ gw := gw_2 (List.mem_of_getElem? (i := 50) (by decide +kernel)) rfl
theorem gm_C_80 : Cond.methodLink cn_C 80 yy_C_needDay ∈ gw := gw_2 (List.mem_of_getElem? (i := 52) (by decide +kernel)) rfl
theorem gt_C_needDay : Cond.static yy_C_needDay ∈ gw := gw_2 (List.mem_of_getElem? (i := 53) (by decide +kernel)) rfl
theorem gc_C_needDay : Cond.code yy_C_needDay bb_C_needDay 1 none ∈ gw := gw_2 (List.mem_of_getElem? (i := 54) (by decide +kernel)) rfl
theorem gq_C_278 : Cond.constant cn_C 278 (99999) ∈ gw := gw_2 (List.mem_of_getElem? (i := 55) (by decide +kernel)) rfl
theorem gm_C_83 : Cond.methodLink cn_C 83 yy_C_needPressure ∈ gw := gw_2 (List.mem_of_getElem? (i := 57) (by decide +kernel)) rfl
theorem gt_C_needPressure : Cond.static yy_C_needPressure ∈ gw := gw_2 (List.mem_of_getElem? (i := 58) (by decide +kernel)) rfl
theorem gc_C_needPressure : Cond.code yy_C_needPressure bb_C_needPressure 1 none ∈ gw := gw_2 (List.mem_of_getElem? (i := 59) (by decide +kernel)) rfl
theorem gk_C_86 : Cond.classLink cn_C 86 "java/lang/IllegalStateException" ∈ gw := gw_2 (List.mem_of_getElem? (i := 61) (by decide +kernel)) rfl
theorem gx_T : Cond.instantiable cn_T 6 ∈ gw := gw_2 (List.mem_of_getElem? (i := 78) (by decide +kernel)) rfl
theorem gm_C_93 : Cond.methodLink cn_C 93 yy_T_init ∈ gw := gw_2 (List.mem_of_getElem? (i := 79) (by decide +kernel)) rfl
theorem gi_T_init : Cond.instanceMethod yy_T_init ∈ gw := gw_2 (List.mem_of_getElem? (i := 80) (by decide +kernel)) rfl
theorem gc_T_init : Cond.code yy_T_init bb_T_init 7 none ∈ gw := gw_2 (List.mem_of_getElem? (i := 81) (by decide +kernel)) rfl
theorem gm_T_1 : Cond.methodLink cn_T 1 objectInit ∈ gw := gw_2 (List.mem_of_getElem? (i := 82) (by decide +kernel)) rfl
theorem gf_T_7 : Cond.fieldLink cn_T 7 cn_T "number" "I" ∈ gw := gw_2 (List.mem_of_getElem? (i := 83) (by decide +kernel)) rfl
theorem gf_H_54 : Cond.fieldLink cn_H 54 cn_T "number" "I" ∈ gw := gw_2 (List.mem_of_getElem? (i := 84) (by decide +kernel)) rfl
theorem gf_T_13 : Cond.fieldLink cn_T 13 cn_T "hydrant" "I" ∈ gw := gw_2 (List.mem_of_getElem? (i := 85) (by decide +kernel)) rfl
theorem gf_C_233 : Cond.fieldLink cn_C 233 cn_T "hydrant" "I" ∈ gw := gw_2 (List.mem_of_getElem? (i := 86) (by decide +kernel)) rfl
theorem gf_T_16 : Cond.fieldLink cn_T 16 cn_T "day" "I" ∈ gw := gw_2 (List.mem_of_getElem? (i := 87) (by decide +kernel)) rfl
theorem gf_H_49 : Cond.fieldLink cn_H 49 cn_T "day" "I" ∈ gw := gw_2 (List.mem_of_getElem? (i := 88) (by decide +kernel)) rfl
theorem gf_C_236 : Cond.fieldLink cn_C 236 cn_T "day" "I" ∈ gw := gw_2 (List.mem_of_getElem? (i := 89) (by decide +kernel)) rfl
theorem gf_T_19 : Cond.fieldLink cn_T 19 cn_T "rest" "I" ∈ gw := gw_2 (List.mem_of_getElem? (i := 90) (by decide +kernel)) rfl
theorem gf_C_239 : Cond.fieldLink cn_C 239 cn_T "rest" "I" ∈ gw := gw_2 (List.mem_of_getElem? (i := 91) (by decide +kernel)) rfl
theorem gf_T_22 : Cond.fieldLink cn_T 22 cn_T "flow" "I" ∈ gw := gw_2 (List.mem_of_getElem? (i := 92) (by decide +kernel)) rfl
theorem gf_C_242 : Cond.fieldLink cn_C 242 cn_T "flow" "I" ∈ gw := gw_2 (List.mem_of_getElem? (i := 93) (by decide +kernel)) rfl
theorem gf_T_25 : Cond.fieldLink cn_T 25 cn_T "left" "I" ∈ gw := gw_2 (List.mem_of_getElem? (i := 94) (by decide +kernel)) rfl
theorem gf_C_245 : Cond.fieldLink cn_C 245 cn_T "left" "I" ∈ gw := gw_2 (List.mem_of_getElem? (i := 95) (by decide +kernel)) rfl
theorem gm_C_96 : Cond.methodLink cn_C 96 yy_H_take ∈ gw := gw_2 (List.mem_of_getElem? (i := 109) (by decide +kernel)) rfl
theorem gi_H_take : Cond.instanceMethod yy_H_take ∈ gw := gw_2 (List.mem_of_getElem? (i := 110) (by decide +kernel)) rfl
theorem gs_H_take : Cond.selects cn_H yy_H_take yy_H_take ∈ gw := gw_2 (List.mem_of_getElem? (i := 111) (by decide +kernel)) rfl
theorem gc_H_take : Cond.code yy_H_take bb_H_take 2 none ∈ gw := gw_2 (List.mem_of_getElem? (i := 112) (by decide +kernel)) rfl
theorem gm_L_107 : Cond.methodLink cn_L 107 yy_L_flow ∈ gw := gw_2 (List.mem_of_getElem? (i := 113) (by decide +kernel)) rfl
theorem gt_L_flow : Cond.static yy_L_flow ∈ gw := gw_2 (List.mem_of_getElem? (i := 114) (by decide +kernel)) rfl
theorem gk_L_33 : Cond.classLink cn_L 33 "java/lang/ArithmeticException" ∈ gw := gw_2 (List.mem_of_getElem? (i := 116) (by decide +kernel)) rfl
theorem gm_L_29 : Cond.methodLink cn_L 29 yy_C_flow ∈ gw := gw_2 (List.mem_of_getElem? (i := 117) (by decide +kernel)) rfl
theorem gi_C_flow : Cond.instanceMethod yy_C_flow ∈ gw := gw_2 (List.mem_of_getElem? (i := 118) (by decide +kernel)) rfl
theorem gs_C_flow : Cond.selects cn_C yy_C_flow yy_C_flow ∈ gw := gw_2 (List.mem_of_getElem? (i := 119) (by decide +kernel)) rfl
theorem gc_C_flow : Cond.code yy_C_flow bb_C_flow 8 (some .int) ∈ gw := gw_2 (List.mem_of_getElem? (i := 120) (by decide +kernel)) rfl
theorem gm_C_102 : Cond.methodLink cn_C 102 yy_C_countingTest ∈ gw := gw_2 (List.mem_of_getElem? (i := 122) (by decide +kernel)) rfl
theorem gt_C_countingTest : Cond.static yy_C_countingTest ∈ gw := gw_2 (List.mem_of_getElem? (i := 123) (by decide +kernel)) rfl
theorem gc_C_countingTest : Cond.code yy_C_countingTest bb_C_countingTest 2 (some (.object "HydrantRows$Test")) ∈ gw := gw_2 (List.mem_of_getElem? (i := 124) (by decide +kernel)) rfl
theorem gm_C_106 : Cond.methodLink cn_C 106 yy_C_needTold ∈ gw := gw_2 (List.mem_of_getElem? (i := 126) (by decide +kernel)) rfl
theorem gt_C_needTold : Cond.static yy_C_needTold ∈ gw := gw_2 (List.mem_of_getElem? (i := 127) (by decide +kernel)) rfl
theorem gc_C_needTold : Cond.code yy_C_needTold bb_C_needTold 2 none ∈ gw := gw_2 (List.mem_of_getElem? (i := 128) (by decide +kernel)) rfl
theorem gm_C_263 : Cond.methodLink cn_C 263 yy_T_canTell ∈ gw := gw_2 (List.mem_of_getElem? (i := 129) (by decide +kernel)) rfl
theorem gi_T_canTell : Cond.instanceMethod yy_T_canTell ∈ gw := gw_2 (List.mem_of_getElem? (i := 130) (by decide +kernel)) rfl
theorem gs_T_canTell : Cond.selects cn_T yy_T_canTell yy_T_canTell ∈ gw := gw_2 (List.mem_of_getElem? (i := 131) (by decide +kernel)) rfl
theorem gc_T_canTell : Cond.code yy_T_canTell bb_T_canTell 2 (some .boolean) ∈ gw := gw_2 (List.mem_of_getElem? (i := 132) (by decide +kernel)) rfl
theorem gm_T_28 : Cond.methodLink cn_T 28 yy_T_lowerAt ∈ gw := gw_2 (List.mem_of_getElem? (i := 133) (by decide +kernel)) rfl
theorem gi_T_lowerAt : Cond.instanceMethod yy_T_lowerAt ∈ gw := gw_2 (List.mem_of_getElem? (i := 134) (by decide +kernel)) rfl
theorem gs_T_lowerAt : Cond.selects cn_T yy_T_lowerAt yy_T_lowerAt ∈ gw := gw_2 (List.mem_of_getElem? (i := 135) (by decide +kernel)) rfl
theorem gc_T_lowerAt : Cond.code yy_T_lowerAt bb_T_lowerAt 2 (some .int) ∈ gw := gw_2 (List.mem_of_getElem? (i := 136) (by decide +kernel)) rfl
theorem gk_C_267 : Cond.classLink cn_C 267 "java/lang/ArithmeticException" ∈ gw := gw_2 (List.mem_of_getElem? (i := 137) (by decide +kernel)) rfl
theorem gm_C_110 : Cond.methodLink cn_C 110 yy_T_upperAt ∈ gw := gw_2 (List.mem_of_getElem? (i := 153) (by decide +kernel)) rfl
theorem gi_T_upperAt : Cond.instanceMethod yy_T_upperAt ∈ gw := gw_2 (List.mem_of_getElem? (i := 154) (by decide +kernel)) rfl
theorem gs_T_upperAt : Cond.selects cn_T yy_T_upperAt yy_T_upperAt ∈ gw := gw_2 (List.mem_of_getElem? (i := 155) (by decide +kernel)) rfl
theorem gc_T_upperAt : Cond.code yy_T_upperAt bb_T_upperAt 2 (some .int) ∈ gw := gw_2 (List.mem_of_getElem? (i := 156) (by decide +kernel)) rfl
theorem gm_C_114 : Cond.methodLink cn_C 114 yy_T_lowerAt ∈ gw := gw_2 (List.mem_of_getElem? (i := 157) (by decide +kernel)) rfl
theorem gm_C_117 : Cond.methodLink cn_C 117 yy_C_commonDivisor ∈ gw := gw_2 (List.mem_of_getElem? (i := 158) (by decide +kernel)) rfl
theorem gt_C_commonDivisor : Cond.static yy_C_commonDivisor ∈ gw := gw_2 (List.mem_of_getElem? (i := 159) (by decide +kernel)) rfl
theorem gc_C_commonDivisor : Cond.code yy_C_commonDivisor bb_C_commonDivisor 6 (some .int) ∈ gw := gw_2 (List.mem_of_getElem? (i := 160) (by decide +kernel)) rfl
theorem gm_C_121 : Cond.methodLink cn_C 121 Lib.Math.max.name ∈ gw := gw_2 (List.mem_of_getElem? (i := 161) (by decide +kernel)) rfl
theorem gt_N_max : Cond.static Lib.Math.max.name ∈ gw := gw_2 (List.mem_of_getElem? (i := 162) (by decide +kernel)) rfl
theorem gc_N_max : Cond.code Lib.Math.max.name Lib.Math.max.code 2 (some .int) ∈ gw := gw_2 (List.mem_of_getElem? (i := 163) (by decide +kernel)) rfl
theorem gm_L_111 : Cond.methodLink cn_L 111 yy_L_sort ∈ gw := gw_2 (List.mem_of_getElem? (i := 164) (by decide +kernel)) rfl
theorem gt_L_sort : Cond.static yy_L_sort ∈ gw := gw_2 (List.mem_of_getElem? (i := 165) (by decide +kernel)) rfl
theorem gm_L_35 : Cond.methodLink cn_L 35 yy_C_sort ∈ gw := gw_2 (List.mem_of_getElem? (i := 167) (by decide +kernel)) rfl
theorem gi_C_sort : Cond.instanceMethod yy_C_sort ∈ gw := gw_2 (List.mem_of_getElem? (i := 168) (by decide +kernel)) rfl
theorem gs_C_sort : Cond.selects cn_C yy_C_sort yy_C_sort ∈ gw := gw_2 (List.mem_of_getElem? (i := 169) (by decide +kernel)) rfl
theorem gc_C_sort : Cond.code yy_C_sort bb_C_sort 3 (some .int) ∈ gw := gw_2 (List.mem_of_getElem? (i := 170) (by decide +kernel)) rfl
theorem gm_C_126 : Cond.methodLink cn_C 126 yy_T_wholeAt ∈ gw := gw_2 (List.mem_of_getElem? (i := 171) (by decide +kernel)) rfl
theorem gi_T_wholeAt : Cond.instanceMethod yy_T_wholeAt ∈ gw := gw_2 (List.mem_of_getElem? (i := 172) (by decide +kernel)) rfl
theorem gs_T_wholeAt : Cond.selects cn_T yy_T_wholeAt yy_T_wholeAt ∈ gw := gw_2 (List.mem_of_getElem? (i := 173) (by decide +kernel)) rfl
theorem gc_T_wholeAt : Cond.code yy_T_wholeAt bb_T_wholeAt 3 (some .int) ∈ gw := gw_2 (List.mem_of_getElem? (i := 174) (by decide +kernel)) rfl
theorem gm_T_32 : Cond.methodLink cn_T 32 yy_T_upperAt ∈ gw := gw_2 (List.mem_of_getElem? (i := 175) (by decide +kernel)) rfl
theorem gm_C_129 : Cond.methodLink cn_C 129 Lib.Math.min.name ∈ gw := gw_2 (List.mem_of_getElem? (i := 176) (by decide +kernel)) rfl
theorem gt_N_min : Cond.static Lib.Math.min.name ∈ gw := gw_2 (List.mem_of_getElem? (i := 177) (by decide +kernel)) rfl
theorem gc_N_min : Cond.code Lib.Math.min.name Lib.Math.min.code 2 (some .int) ∈ gw := gw_2 (List.mem_of_getElem? (i := 178) (by decide +kernel)) rfl
theorem gm_L_115 : Cond.methodLink cn_L 115 yy_L_defect ∈ gw := gw_2 (List.mem_of_getElem? (i := 179) (by decide +kernel)) rfl
theorem gt_L_defect : Cond.static yy_L_defect ∈ gw := gw_2 (List.mem_of_getElem? (i := 180) (by decide +kernel)) rfl
theorem gm_L_39 : Cond.methodLink cn_L 39 yy_C_defect ∈ gw := gw_2 (List.mem_of_getElem? (i := 182) (by decide +kernel)) rfl
theorem gi_C_defect : Cond.instanceMethod yy_C_defect ∈ gw := gw_2 (List.mem_of_getElem? (i := 183) (by decide +kernel)) rfl
theorem gs_C_defect : Cond.selects cn_C yy_C_defect yy_C_defect ∈ gw := gw_2 (List.mem_of_getElem? (i := 184) (by decide +kernel)) rfl
theorem gc_C_defect : Cond.code yy_C_defect bb_C_defect 4 none ∈ gw := gw_2 (List.mem_of_getElem? (i := 185) (by decide +kernel)) rfl
theorem gm_L_118 : Cond.methodLink cn_L 118 yy_L_works ∈ gw := gw_2 (List.mem_of_getElem? (i := 187) (by decide +kernel)) rfl
theorem gt_L_works : Cond.static yy_L_works ∈ gw := gw_2 (List.mem_of_getElem? (i := 188) (by decide +kernel)) rfl
theorem gm_L_42 : Cond.methodLink cn_L 42 yy_C_works ∈ gw := gw_2 (List.mem_of_getElem? (i := 190) (by decide +kernel)) rfl
theorem gi_C_works : Cond.instanceMethod yy_C_works ∈ gw := gw_2 (List.mem_of_getElem? (i := 191) (by decide +kernel)) rfl
theorem gs_C_works : Cond.selects cn_C yy_C_works yy_C_works ∈ gw := gw_2 (List.mem_of_getElem? (i := 192) (by decide +kernel)) rfl
theorem gc_C_works : Cond.code yy_C_works bb_C_works 5 none ∈ gw := gw_2 (List.mem_of_getElem? (i := 193) (by decide +kernel)) rfl
theorem gm_C_142 : Cond.methodLink cn_C 142 yy_H_hasWorksWithin ∈ gw := gw_2 (List.mem_of_getElem? (i := 195) (by decide +kernel)) rfl
theorem gi_H_hasWorksWithin : Cond.instanceMethod yy_H_hasWorksWithin ∈ gw := gw_2 (List.mem_of_getElem? (i := 196) (by decide +kernel)) rfl
theorem gs_H_hasWorksWithin : Cond.selects cn_H yy_H_hasWorksWithin yy_H_hasWorksWithin ∈ gw := gw_2 (List.mem_of_getElem? (i := 197) (by decide +kernel)) rfl
theorem gc_H_hasWorksWithin : Cond.code yy_H_hasWorksWithin bb_H_hasWorksWithin 7 (some .boolean) ∈ gw := gw_2 (List.mem_of_getElem? (i := 198) (by decide +kernel)) rfl
theorem gm_H_55 : Cond.methodLink cn_H 55 yy_O_meet ∈ gw := gw_2 (List.mem_of_getElem? (i := 199) (by decide +kernel)) rfl
theorem gi_O_meet : Cond.instanceMethod yy_O_meet ∈ gw := gw_2 (List.mem_of_getElem? (i := 200) (by decide +kernel)) rfl
theorem gs_O_meet : Cond.selects cn_O yy_O_meet yy_O_meet ∈ gw := gw_2 (List.mem_of_getElem? (i := 201) (by decide +kernel)) rfl
theorem gc_O_meet : Cond.code yy_O_meet bb_O_meet 3 (some .boolean) ∈ gw := gw_2 (List.mem_of_getElem? (i := 202) (by decide +kernel)) rfl
theorem gm_C_148 : Cond.methodLink cn_C 148 yy_H_addWorks ∈ gw := gw_2 (List.mem_of_getElem? (i := 204) (by decide +kernel)) rfl
theorem gi_H_addWorks : Cond.instanceMethod yy_H_addWorks ∈ gw := gw_2 (List.mem_of_getElem? (i := 205) (by decide +kernel)) rfl
theorem gs_H_addWorks : Cond.selects cn_H yy_H_addWorks yy_H_addWorks ∈ gw := gw_2 (List.mem_of_getElem? (i := 206) (by decide +kernel)) rfl
theorem gc_H_addWorks : Cond.code yy_H_addWorks bb_H_addWorks 3 (some .boolean) ∈ gw := gw_2 (List.mem_of_getElem? (i := 207) (by decide +kernel)) rfl
theorem gx_O : Cond.instantiable cn_O 2 ∈ gw := gw_2 (List.mem_of_getElem? (i := 208) (by decide +kernel)) rfl
theorem gm_H_59 : Cond.methodLink cn_H 59 yy_O_init ∈ gw := gw_2 (List.mem_of_getElem? (i := 209) (by decide +kernel)) rfl
theorem gi_O_init : Cond.instanceMethod yy_O_init ∈ gw := gw_2 (List.mem_of_getElem? (i := 210) (by decide +kernel)) rfl
theorem gc_O_init : Cond.code yy_O_init bb_O_init 3 none ∈ gw := gw_2 (List.mem_of_getElem? (i := 211) (by decide +kernel)) rfl
theorem gm_O_1 : Cond.methodLink cn_O 1 objectInit ∈ gw := gw_2 (List.mem_of_getElem? (i := 212) (by decide +kernel)) rfl
theorem gf_O_7 : Cond.fieldLink cn_O 7 cn_O "from" "I" ∈ gw := gw_2 (List.mem_of_getElem? (i := 213) (by decide +kernel)) rfl
theorem gf_O_13 : Cond.fieldLink cn_O 13 cn_O "to" "I" ∈ gw := gw_2 (List.mem_of_getElem? (i := 214) (by decide +kernel)) rfl
theorem gm_L_122 : Cond.methodLink cn_L 122 yy_L_season ∈ gw := gw_2 (List.mem_of_getElem? (i := 221) (by decide +kernel)) rfl
theorem gt_L_season : Cond.static yy_L_season ∈ gw := gw_2 (List.mem_of_getElem? (i := 222) (by decide +kernel)) rfl
theorem gm_L_46 : Cond.methodLink cn_L 46 yy_C_season ∈ gw := gw_2 (List.mem_of_getElem? (i := 224) (by decide +kernel)) rfl
theorem gi_C_season : Cond.instanceMethod yy_C_season ∈ gw := gw_2 (List.mem_of_getElem? (i := 225) (by decide +kernel)) rfl
theorem gs_C_season : Cond.selects cn_C yy_C_season yy_C_season ∈ gw := gw_2 (List.mem_of_getElem? (i := 226) (by decide +kernel)) rfl
theorem gc_C_season : Cond.code yy_C_season bb_C_season 5 none ∈ gw := gw_2 (List.mem_of_getElem? (i := 227) (by decide +kernel)) rfl
theorem gm_C_160 : Cond.methodLink cn_C 160 yy_H_setDry ∈ gw := gw_2 (List.mem_of_getElem? (i := 230) (by decide +kernel)) rfl
theorem gi_H_setDry : Cond.instanceMethod yy_H_setDry ∈ gw := gw_2 (List.mem_of_getElem? (i := 231) (by decide +kernel)) rfl
theorem gs_H_setDry : Cond.selects cn_H yy_H_setDry yy_H_setDry ∈ gw := gw_2 (List.mem_of_getElem? (i := 232) (by decide +kernel)) rfl
theorem gc_H_setDry : Cond.code yy_H_setDry bb_H_setDry 4 none ∈ gw := gw_2 (List.mem_of_getElem? (i := 233) (by decide +kernel)) rfl
theorem gm_L_126 : Cond.methodLink cn_L 126 yy_L_usable ∈ gw := gw_2 (List.mem_of_getElem? (i := 234) (by decide +kernel)) rfl
theorem gt_L_usable : Cond.static yy_L_usable ∈ gw := gw_2 (List.mem_of_getElem? (i := 235) (by decide +kernel)) rfl
theorem gm_L_50 : Cond.methodLink cn_L 50 yy_C_usable ∈ gw := gw_2 (List.mem_of_getElem? (i := 237) (by decide +kernel)) rfl
theorem gi_C_usable : Cond.instanceMethod yy_C_usable ∈ gw := gw_2 (List.mem_of_getElem? (i := 238) (by decide +kernel)) rfl
theorem gs_C_usable : Cond.selects cn_C yy_C_usable yy_C_usable ∈ gw := gw_2 (List.mem_of_getElem? (i := 239) (by decide +kernel)) rfl
theorem gc_C_usable : Cond.code yy_C_usable bb_C_usable 4 (some .boolean) ∈ gw := gw_3 (List.mem_of_getElem? (i := 0) (by decide +kernel)) rfl
theorem gm_C_164 : Cond.methodLink cn_C 164 yy_H_isUsable ∈ gw := gw_3 (List.mem_of_getElem? (i := 1) (by decide +kernel)) rfl
theorem gi_H_isUsable : Cond.instanceMethod yy_H_isUsable ∈ gw := gw_3 (List.mem_of_getElem? (i := 2) (by decide +kernel)) rfl
theorem gs_H_isUsable : Cond.selects cn_H yy_H_isUsable yy_H_isUsable ∈ gw := gw_3 (List.mem_of_getElem? (i := 3) (by decide +kernel)) rfl
theorem gc_H_isUsable : Cond.code yy_H_isUsable bb_H_isUsable 3 (some .boolean) ∈ gw := gw_3 (List.mem_of_getElem? (i := 4) (by decide +kernel)) rfl
theorem gm_H_62 : Cond.methodLink cn_H 62 yy_H_isDry ∈ gw := gw_3 (List.mem_of_getElem? (i := 5) (by decide +kernel)) rfl
theorem gi_H_isDry : Cond.instanceMethod yy_H_isDry ∈ gw := gw_3 (List.mem_of_getElem? (i := 6) (by decide +kernel)) rfl
theorem gs_H_isDry : Cond.selects cn_H yy_H_isDry yy_H_isDry ∈ gw := gw_3 (List.mem_of_getElem? (i := 7) (by decide +kernel)) rfl
theorem gc_H_isDry : Cond.code yy_H_isDry bb_H_isDry 3 (some .boolean) ∈ gw := gw_3 (List.mem_of_getElem? (i := 8) (by decide +kernel)) rfl
theorem gm_H_66 : Cond.methodLink cn_H 66 yy_H_hasWorksWithin ∈ gw := gw_3 (List.mem_of_getElem? (i := 9) (by decide +kernel)) rfl
theorem gm_L_130 : Cond.methodLink cn_L 130 yy_L_near ∈ gw := gw_3 (List.mem_of_getElem? (i := 10) (by decide +kernel)) rfl
theorem gt_L_near : Cond.static yy_L_near ∈ gw := gw_3 (List.mem_of_getElem? (i := 11) (by decide +kernel)) rfl
theorem gm_L_54 : Cond.methodLink cn_L 54 yy_C_near ∈ gw := gw_3 (List.mem_of_getElem? (i := 13) (by decide +kernel)) rfl
theorem gi_C_near : Cond.instanceMethod yy_C_near ∈ gw := gw_3 (List.mem_of_getElem? (i := 14) (by decide +kernel)) rfl
theorem gs_C_near : Cond.selects cn_C yy_C_near yy_C_near ∈ gw := gw_3 (List.mem_of_getElem? (i := 15) (by decide +kernel)) rfl
theorem gc_C_near : Cond.code yy_C_near bb_C_near 9 (some .int) ∈ gw := gw_3 (List.mem_of_getElem? (i := 16) (by decide +kernel)) rfl
theorem gm_C_168 : Cond.methodLink cn_C 168 yy_C_needNotBelowZero ∈ gw := gw_3 (List.mem_of_getElem? (i := 17) (by decide +kernel)) rfl
theorem gt_C_needNotBelowZero : Cond.static yy_C_needNotBelowZero ∈ gw := gw_3 (List.mem_of_getElem? (i := 18) (by decide +kernel)) rfl
theorem gc_C_needNotBelowZero : Cond.code yy_C_needNotBelowZero bb_C_needNotBelowZero 1 none ∈ gw := gw_3 (List.mem_of_getElem? (i := 19) (by decide +kernel)) rfl
theorem gm_C_171 : Cond.methodLink cn_C 171 yy_K_clear ∈ gw := gw_3 (List.mem_of_getElem? (i := 21) (by decide +kernel)) rfl
theorem gi_K_clear : Cond.instanceMethod yy_K_clear ∈ gw := gw_3 (List.mem_of_getElem? (i := 22) (by decide +kernel)) rfl
theorem gs_K_clear : Cond.selects cn_K yy_K_clear yy_K_clear ∈ gw := gw_3 (List.mem_of_getElem? (i := 23) (by decide +kernel)) rfl
theorem gc_K_clear : Cond.code yy_K_clear bb_K_clear 1 none ∈ gw := gw_3 (List.mem_of_getElem? (i := 24) (by decide +kernel)) rfl
theorem gm_C_174 : Cond.methodLink cn_C 174 yy_H_hoseFrom ∈ gw := gw_3 (List.mem_of_getElem? (i := 25) (by decide +kernel)) rfl
theorem gi_H_hoseFrom : Cond.instanceMethod yy_H_hoseFrom ∈ gw := gw_3 (List.mem_of_getElem? (i := 26) (by decide +kernel)) rfl
theorem gs_H_hoseFrom : Cond.selects cn_H yy_H_hoseFrom yy_H_hoseFrom ∈ gw := gw_3 (List.mem_of_getElem? (i := 27) (by decide +kernel)) rfl
theorem gc_H_hoseFrom : Cond.code yy_H_hoseFrom bb_H_hoseFrom 3 (some .int) ∈ gw := gw_3 (List.mem_of_getElem? (i := 28) (by decide +kernel)) rfl
theorem gt_C_hoseLength : Cond.static yy_C_hoseLength ∈ gw := gw_3 (List.mem_of_getElem? (i := 30) (by decide +kernel)) rfl
theorem gc_C_hoseLength : Cond.code yy_C_hoseLength bb_C_hoseLength 4 (some .int) ∈ gw := gw_3 (List.mem_of_getElem? (i := 31) (by decide +kernel)) rfl
theorem gm_C_294 : Cond.methodLink cn_C 294 Lib.Math.abs.name ∈ gw := gw_3 (List.mem_of_getElem? (i := 32) (by decide +kernel)) rfl
theorem gt_N_abs : Cond.static Lib.Math.abs.name ∈ gw := gw_3 (List.mem_of_getElem? (i := 33) (by decide +kernel)) rfl
theorem gc_N_abs : Cond.code Lib.Math.abs.name Lib.Math.abs.code 1 (some .int) ∈ gw := gw_3 (List.mem_of_getElem? (i := 34) (by decide +kernel)) rfl
theorem gm_C_180 : Cond.methodLink cn_C 180 yy_K_insert ∈ gw := gw_3 (List.mem_of_getElem? (i := 35) (by decide +kernel)) rfl
theorem gi_K_insert : Cond.instanceMethod yy_K_insert ∈ gw := gw_3 (List.mem_of_getElem? (i := 36) (by decide +kernel)) rfl
theorem gs_K_insert : Cond.selects cn_K yy_K_insert yy_K_insert ∈ gw := gw_3 (List.mem_of_getElem? (i := 37) (by decide +kernel)) rfl
theorem gc_K_insert : Cond.code yy_K_insert bb_K_insert 5 none ∈ gw := gw_3 (List.mem_of_getElem? (i := 38) (by decide +kernel)) rfl
theorem gm_C_183 : Cond.methodLink cn_C 183 yy_K_numberAt ∈ gw := gw_3 (List.mem_of_getElem? (i := 39) (by decide +kernel)) rfl
theorem gi_K_numberAt : Cond.instanceMethod yy_K_numberAt ∈ gw := gw_3 (List.mem_of_getElem? (i := 40) (by decide +kernel)) rfl
theorem gs_K_numberAt : Cond.selects cn_K yy_K_numberAt yy_K_numberAt ∈ gw := gw_3 (List.mem_of_getElem? (i := 41) (by decide +kernel)) rfl
theorem gc_K_numberAt : Cond.code yy_K_numberAt bb_K_numberAt 2 (some .int) ∈ gw := gw_3 (List.mem_of_getElem? (i := 42) (by decide +kernel)) rfl
theorem gm_L_133 : Cond.methodLink cn_L 133 yy_L_both ∈ gw := gw_3 (List.mem_of_getElem? (i := 43) (by decide +kernel)) rfl
theorem gt_L_both : Cond.static yy_L_both ∈ gw := gw_3 (List.mem_of_getElem? (i := 44) (by decide +kernel)) rfl
theorem gm_L_57 : Cond.methodLink cn_L 57 yy_C_both ∈ gw := gw_3 (List.mem_of_getElem? (i := 46) (by decide +kernel)) rfl
theorem gi_C_both : Cond.instanceMethod yy_C_both ∈ gw := gw_3 (List.mem_of_getElem? (i := 47) (by decide +kernel)) rfl
theorem gs_C_both : Cond.selects cn_C yy_C_both yy_C_both ∈ gw := gw_3 (List.mem_of_getElem? (i := 48) (by decide +kernel)) rfl
theorem gc_C_both : Cond.code yy_C_both bb_C_both 9 (some .int) ∈ gw := gw_3 (List.mem_of_getElem? (i := 49) (by decide +kernel)) rfl
theorem gm_C_191 : Cond.methodLink cn_C 191 yy_C_limitOf ∈ gw := gw_3 (List.mem_of_getElem? (i := 51) (by decide +kernel)) rfl
theorem gi_C_limitOf : Cond.instanceMethod yy_C_limitOf ∈ gw := gw_3 (List.mem_of_getElem? (i := 53) (by decide +kernel)) rfl
theorem gc_C_limitOf : Cond.code yy_C_limitOf bb_C_limitOf 2 (some .int) ∈ gw := gw_3 (List.mem_of_getElem? (i := 54) (by decide +kernel)) rfl
theorem gm_L_136 : Cond.methodLink cn_L 136 yy_L_supply ∈ gw := gw_3 (List.mem_of_getElem? (i := 55) (by decide +kernel)) rfl
theorem gt_L_supply : Cond.static yy_L_supply ∈ gw := gw_3 (List.mem_of_getElem? (i := 56) (by decide +kernel)) rfl
theorem gm_L_60 : Cond.methodLink cn_L 60 yy_C_supply ∈ gw := gw_3 (List.mem_of_getElem? (i := 58) (by decide +kernel)) rfl
theorem gi_C_supply : Cond.instanceMethod yy_C_supply ∈ gw := gw_3 (List.mem_of_getElem? (i := 59) (by decide +kernel)) rfl
theorem gs_C_supply : Cond.selects cn_C yy_C_supply yy_C_supply ∈ gw := gw_3 (List.mem_of_getElem? (i := 60) (by decide +kernel)) rfl
theorem gc_C_supply : Cond.code yy_C_supply bb_C_supply 8 (some .int) ∈ gw := gw_3 (List.mem_of_getElem? (i := 61) (by decide +kernel)) rfl
theorem gq_C_194 : Cond.constant cn_C 194 (200000) ∈ gw := gw_3 (List.mem_of_getElem? (i := 62) (by decide +kernel)) rfl
theorem gm_C_197 : Cond.methodLink cn_C 197 yy_C_supplyOfMain ∈ gw := gw_3 (List.mem_of_getElem? (i := 64) (by decide +kernel)) rfl
theorem gi_C_supplyOfMain : Cond.instanceMethod yy_C_supplyOfMain ∈ gw := gw_3 (List.mem_of_getElem? (i := 66) (by decide +kernel)) rfl
theorem gc_C_supplyOfMain : Cond.code yy_C_supplyOfMain bb_C_supplyOfMain 12 (some .int) ∈ gw := gw_3 (List.mem_of_getElem? (i := 67) (by decide +kernel)) rfl
theorem gm_C_287 : Cond.methodLink cn_C 287 yy_H_givenAt ∈ gw := gw_3 (List.mem_of_getElem? (i := 68) (by decide +kernel)) rfl
theorem gi_H_givenAt : Cond.instanceMethod yy_H_givenAt ∈ gw := gw_3 (List.mem_of_getElem? (i := 69) (by decide +kernel)) rfl
theorem gs_H_givenAt : Cond.selects cn_H yy_H_givenAt yy_H_givenAt ∈ gw := gw_3 (List.mem_of_getElem? (i := 70) (by decide +kernel)) rfl
theorem gc_H_givenAt : Cond.code yy_H_givenAt bb_H_givenAt 2 (some .int) ∈ gw := gw_3 (List.mem_of_getElem? (i := 71) (by decide +kernel)) rfl
theorem gm_H_73 : Cond.methodLink cn_H 73 yy_T_wholeAt ∈ gw := gw_3 (List.mem_of_getElem? (i := 72) (by decide +kernel)) rfl
theorem gm_L_141 : Cond.methodLink cn_L 141 yy_L_round ∈ gw := gw_3 (List.mem_of_getElem? (i := 73) (by decide +kernel)) rfl
theorem gt_L_round : Cond.static yy_L_round ∈ gw := gw_3 (List.mem_of_getElem? (i := 74) (by decide +kernel)) rfl
theorem gm_L_63 : Cond.methodLink cn_L 63 yy_C_round ∈ gw := gw_3 (List.mem_of_getElem? (i := 76) (by decide +kernel)) rfl
theorem gi_C_round : Cond.instanceMethod yy_C_round ∈ gw := gw_3 (List.mem_of_getElem? (i := 77) (by decide +kernel)) rfl
theorem gs_C_round : Cond.selects cn_C yy_C_round yy_C_round ∈ gw := gw_3 (List.mem_of_getElem? (i := 78) (by decide +kernel)) rfl
theorem gc_C_round : Cond.code yy_C_round bb_C_round 11 (some .int) ∈ gw := gw_3 (List.mem_of_getElem? (i := 79) (by decide +kernel)) rfl
theorem gm_C_201 : Cond.methodLink cn_C 201 yy_C_toldStop ∈ gw := gw_3 (List.mem_of_getElem? (i := 80) (by decide +kernel)) rfl
theorem gt_C_toldStop : Cond.static yy_C_toldStop ∈ gw := gw_3 (List.mem_of_getElem? (i := 81) (by decide +kernel)) rfl
theorem gc_C_toldStop : Cond.code yy_C_toldStop bb_C_toldStop 3 (some .int) ∈ gw := gw_3 (List.mem_of_getElem? (i := 82) (by decide +kernel)) rfl
theorem gq_C_290 : Cond.constantLong cn_C 290 (63) ∈ gw := gw_3 (List.mem_of_getElem? (i := 83) (by decide +kernel)) rfl
theorem gm_C_207 : Cond.methodLink cn_C 207 yy_C_setOfStops ∈ gw := gw_3 (List.mem_of_getElem? (i := 85) (by decide +kernel)) rfl
theorem gt_C_setOfStops : Cond.static yy_C_setOfStops ∈ gw := gw_3 (List.mem_of_getElem? (i := 86) (by decide +kernel)) rfl
theorem gc_C_setOfStops : Cond.code yy_C_setOfStops bb_C_setOfStops 8 (some .long) ∈ gw := gw_3 (List.mem_of_getElem? (i := 87) (by decide +kernel)) rfl
theorem gm_C_211 : Cond.methodLink cn_C 211 yy_A_clear ∈ gw := gw_3 (List.mem_of_getElem? (i := 89) (by decide +kernel)) rfl
theorem gi_A_clear : Cond.instanceMethod yy_A_clear ∈ gw := gw_3 (List.mem_of_getElem? (i := 90) (by decide +kernel)) rfl
theorem gs_A_clear : Cond.selects cn_A yy_A_clear yy_A_clear ∈ gw := gw_3 (List.mem_of_getElem? (i := 91) (by decide +kernel)) rfl
theorem gc_A_clear : Cond.code yy_A_clear bb_A_clear 2 none ∈ gw := gw_3 (List.mem_of_getElem? (i := 92) (by decide +kernel)) rfl
theorem gm_C_212 : Cond.methodLink cn_C 212 yy_A_choose ∈ gw := gw_3 (List.mem_of_getElem? (i := 93) (by decide +kernel)) rfl
theorem gi_A_choose : Cond.instanceMethod yy_A_choose ∈ gw := gw_3 (List.mem_of_getElem? (i := 94) (by decide +kernel)) rfl
theorem gs_A_choose : Cond.selects cn_A yy_A_choose yy_A_choose ∈ gw := gw_3 (List.mem_of_getElem? (i := 95) (by decide +kernel)) rfl
theorem gc_A_choose : Cond.code yy_A_choose bb_A_choose 2 none ∈ gw := gw_3 (List.mem_of_getElem? (i := 96) (by decide +kernel)) rfl
theorem gm_C_216 : Cond.methodLink cn_C 216 yy_A_leastMetres ∈ gw := gw_3 (List.mem_of_getElem? (i := 97) (by decide +kernel)) rfl
theorem gi_A_leastMetres : Cond.instanceMethod yy_A_leastMetres ∈ gw := gw_3 (List.mem_of_getElem? (i := 98) (by decide +kernel)) rfl
theorem gs_A_leastMetres : Cond.selects cn_A yy_A_leastMetres yy_A_leastMetres ∈ gw := gw_3 (List.mem_of_getElem? (i := 99) (by decide +kernel)) rfl
theorem gc_A_leastMetres : Cond.code yy_A_leastMetres bb_A_leastMetres 1 (some .int) ∈ gw := gw_3 (List.mem_of_getElem? (i := 100) (by decide +kernel)) rfl
theorem gq_A_31 : Cond.constant cn_A 31 (1400001) ∈ gw := gw_3 (List.mem_of_getElem? (i := 101) (by decide +kernel)) rfl
theorem gm_A_32 : Cond.methodLink cn_A 32 yy_A_goOn ∈ gw := gw_3 (List.mem_of_getElem? (i := 102) (by decide +kernel)) rfl
theorem gi_A_goOn : Cond.instanceMethod yy_A_goOn ∈ gw := gw_3 (List.mem_of_getElem? (i := 104) (by decide +kernel)) rfl
theorem gc_A_goOn : Cond.code yy_A_goOn bb_A_goOn 9 none ∈ gw := gw_3 (List.mem_of_getElem? (i := 105) (by decide +kernel)) rfl
theorem gm_A_40 : Cond.methodLink cn_A 40 yy_A_keepWay ∈ gw := gw_3 (List.mem_of_getElem? (i := 107) (by decide +kernel)) rfl
theorem gi_A_keepWay : Cond.instanceMethod yy_A_keepWay ∈ gw := gw_3 (List.mem_of_getElem? (i := 109) (by decide +kernel)) rfl
theorem gc_A_keepWay : Cond.code yy_A_keepWay bb_A_keepWay 3 none ∈ gw := gw_3 (List.mem_of_getElem? (i := 110) (by decide +kernel)) rfl
theorem gm_A_53 : Cond.methodLink cn_A 53 yy_H_hoseFrom ∈ gw := gw_3 (List.mem_of_getElem? (i := 111) (by decide +kernel)) rfl
theorem gm_L_145 : Cond.methodLink cn_L 145 yy_L_stop ∈ gw := gw_3 (List.mem_of_getElem? (i := 112) (by decide +kernel)) rfl
theorem gt_L_stop : Cond.static yy_L_stop ∈ gw := gw_3 (List.mem_of_getElem? (i := 113) (by decide +kernel)) rfl
theorem gm_L_67 : Cond.methodLink cn_L 67 yy_C_stop ∈ gw := gw_3 (List.mem_of_getElem? (i := 115) (by decide +kernel)) rfl
theorem gi_C_stop : Cond.instanceMethod yy_C_stop ∈ gw := gw_3 (List.mem_of_getElem? (i := 116) (by decide +kernel)) rfl
theorem gs_C_stop : Cond.selects cn_C yy_C_stop yy_C_stop ∈ gw := gw_3 (List.mem_of_getElem? (i := 117) (by decide +kernel)) rfl
theorem gc_C_stop : Cond.code yy_C_stop bb_C_stop 2 (some .int) ∈ gw := gw_3 (List.mem_of_getElem? (i := 118) (by decide +kernel)) rfl
theorem gm_C_220 : Cond.methodLink cn_C 220 yy_A_stopAt ∈ gw := gw_3 (List.mem_of_getElem? (i := 119) (by decide +kernel)) rfl
theorem gi_A_stopAt : Cond.instanceMethod yy_A_stopAt ∈ gw := gw_3 (List.mem_of_getElem? (i := 120) (by decide +kernel)) rfl
theorem gs_A_stopAt : Cond.selects cn_A yy_A_stopAt yy_A_stopAt ∈ gw := gw_3 (List.mem_of_getElem? (i := 121) (by decide +kernel)) rfl
theorem gc_A_stopAt : Cond.code yy_A_stopAt bb_A_stopAt 2 (some .int) ∈ gw := gw_3 (List.mem_of_getElem? (i := 122) (by decide +kernel)) rfl
theorem gm_L_148 : Cond.methodLink cn_L 148 yy_L_overdue ∈ gw := gw_3 (List.mem_of_getElem? (i := 123) (by decide +kernel)) rfl
theorem gt_L_overdue : Cond.static yy_L_overdue ∈ gw := gw_3 (List.mem_of_getElem? (i := 124) (by decide +kernel)) rfl
theorem gm_L_70 : Cond.methodLink cn_L 70 yy_C_overdue ∈ gw := gw_3 (List.mem_of_getElem? (i := 126) (by decide +kernel)) rfl
theorem gi_C_overdue : Cond.instanceMethod yy_C_overdue ∈ gw := gw_3 (List.mem_of_getElem? (i := 127) (by decide +kernel)) rfl
theorem gs_C_overdue : Cond.selects cn_C yy_C_overdue yy_C_overdue ∈ gw := gw_3 (List.mem_of_getElem? (i := 128) (by decide +kernel)) rfl
theorem gc_C_overdue : Cond.code yy_C_overdue bb_C_overdue 8 (some .int) ∈ gw := gw_3 (List.mem_of_getElem? (i := 129) (by decide +kernel)) rfl
theorem gm_C_225 : Cond.methodLink cn_C 225 yy_H_isOverdue ∈ gw := gw_3 (List.mem_of_getElem? (i := 131) (by decide +kernel)) rfl
theorem gi_H_isOverdue : Cond.instanceMethod yy_H_isOverdue ∈ gw := gw_3 (List.mem_of_getElem? (i := 132) (by decide +kernel)) rfl
theorem gs_H_isOverdue : Cond.selects cn_H yy_H_isOverdue yy_H_isOverdue ∈ gw := gw_3 (List.mem_of_getElem? (i := 133) (by decide +kernel)) rfl
theorem gc_H_isOverdue : Cond.code yy_H_isOverdue bb_H_isOverdue 3 (some .boolean) ∈ gw := gw_3 (List.mem_of_getElem? (i := 134) (by decide +kernel)) rfl
theorem gm_C_228 : Cond.methodLink cn_C 228 yy_H_overdueWeight ∈ gw := gw_3 (List.mem_of_getElem? (i := 135) (by decide +kernel)) rfl
theorem gi_H_overdueWeight : Cond.instanceMethod yy_H_overdueWeight ∈ gw := gw_3 (List.mem_of_getElem? (i := 136) (by decide +kernel)) rfl
theorem gs_H_overdueWeight : Cond.selects cn_H yy_H_overdueWeight yy_H_overdueWeight ∈ gw := gw_3 (List.mem_of_getElem? (i := 137) (by decide +kernel)) rfl
theorem gc_H_overdueWeight : Cond.code yy_H_overdueWeight bb_H_overdueWeight 1 (some .int) ∈ gw := gw_3 (List.mem_of_getElem? (i := 138) (by decide +kernel)) rfl
theorem gm_L_151 : Cond.methodLink cn_L 151 yy_L_testAt ∈ gw := gw_3 (List.mem_of_getElem? (i := 139) (by decide +kernel)) rfl
theorem gt_L_testAt : Cond.static yy_L_testAt ∈ gw := gw_3 (List.mem_of_getElem? (i := 140) (by decide +kernel)) rfl
theorem gm_L_73 : Cond.methodLink cn_L 73 yy_C_testAt ∈ gw := gw_3 (List.mem_of_getElem? (i := 142) (by decide +kernel)) rfl
theorem gi_C_testAt : Cond.instanceMethod yy_C_testAt ∈ gw := gw_3 (List.mem_of_getElem? (i := 143) (by decide +kernel)) rfl
theorem gs_C_testAt : Cond.selects cn_C yy_C_testAt yy_C_testAt ∈ gw := gw_3 (List.mem_of_getElem? (i := 144) (by decide +kernel)) rfl
theorem gc_C_testAt : Cond.code yy_C_testAt bb_C_testAt 4 (some .int) ∈ gw := gw_3 (List.mem_of_getElem? (i := 145) (by decide +kernel)) rfl
theorem gm_L_154 : Cond.methodLink cn_L 154 yy_L_hydrantAt ∈ gw := gw_3 (List.mem_of_getElem? (i := 147) (by decide +kernel)) rfl
theorem gt_L_hydrantAt : Cond.static yy_L_hydrantAt ∈ gw := gw_3 (List.mem_of_getElem? (i := 148) (by decide +kernel)) rfl
theorem gm_L_77 : Cond.methodLink cn_L 77 yy_C_hydrantAt ∈ gw := gw_3 (List.mem_of_getElem? (i := 150) (by decide +kernel)) rfl
theorem gi_C_hydrantAt : Cond.instanceMethod yy_C_hydrantAt ∈ gw := gw_3 (List.mem_of_getElem? (i := 151) (by decide +kernel)) rfl
theorem gs_C_hydrantAt : Cond.selects cn_C yy_C_hydrantAt yy_C_hydrantAt ∈ gw := gw_3 (List.mem_of_getElem? (i := 152) (by decide +kernel)) rfl
theorem gc_C_hydrantAt : Cond.code yy_C_hydrantAt bb_C_hydrantAt 4 (some .int) ∈ gw := gw_3 (List.mem_of_getElem? (i := 153) (by decide +kernel)) rfl
theorem gm_C_248 : Cond.methodLink cn_C 248 yy_H_countingNumber ∈ gw := gw_3 (List.mem_of_getElem? (i := 154) (by decide +kernel)) rfl
theorem gi_H_countingNumber : Cond.instanceMethod yy_H_countingNumber ∈ gw := gw_3 (List.mem_of_getElem? (i := 155) (by decide +kernel)) rfl
theorem gs_H_countingNumber : Cond.selects cn_H yy_H_countingNumber yy_H_countingNumber ∈ gw := gw_3 (List.mem_of_getElem? (i := 156) (by decide +kernel)) rfl
theorem gc_H_countingNumber : Cond.code yy_H_countingNumber bb_H_countingNumber 1 (some .int) ∈ gw := gw_3 (List.mem_of_getElem? (i := 157) (by decide +kernel)) rfl
theorem gk_L_81 : Cond.classLink cn_L 81 cn_M ∈ gw := gw_3 (List.mem_of_getElem? (i := 158) (by decide +kernel)) rfl
theorem gx_M : Cond.instantiable cn_M 23 ∈ gw := gw_3 (List.mem_of_getElem? (i := 159) (by decide +kernel)) rfl
theorem gm_L_83 : Cond.methodLink cn_L 83 yy_M_init ∈ gw := gw_3 (List.mem_of_getElem? (i := 160) (by decide +kernel)) rfl
theorem gi_M_init : Cond.instanceMethod yy_M_init ∈ gw := gw_3 (List.mem_of_getElem? (i := 161) (by decide +kernel)) rfl
theorem gc_M_init : Cond.code yy_M_init bb_M_init 2 none ∈ gw := gw_3 (List.mem_of_getElem? (i := 162) (by decide +kernel)) rfl
theorem gm_M_1 : Cond.methodLink cn_M 1 objectInit ∈ gw := gw_3 (List.mem_of_getElem? (i := 163) (by decide +kernel)) rfl
theorem gf_M_65 : Cond.fieldLink cn_M 65 cn_M "thrown" "I" ∈ gw := gw_3 (List.mem_of_getElem? (i := 164) (by decide +kernel)) rfl
theorem gf_M_69 : Cond.fieldLink cn_M 69 cn_M "hydrants" "I" ∈ gw := gw_3 (List.mem_of_getElem? (i := 165) (by decide +kernel)) rfl
theorem gf_M_7 : Cond.fieldLink cn_M 7 cn_M "x" "[I" ∈ gw := gw_3 (List.mem_of_getElem? (i := 166) (by decide +kernel)) rfl
theorem gf_M_13 : Cond.fieldLink cn_M 13 cn_M "y" "[I" ∈ gw := gw_3 (List.mem_of_getElem? (i := 167) (by decide +kernel)) rfl
theorem gf_M_16 : Cond.fieldLink cn_M 16 cn_M "main" "[I" ∈ gw := gw_3 (List.mem_of_getElem? (i := 168) (by decide +kernel)) rfl
theorem gf_M_19 : Cond.fieldLink cn_M 19 cn_M "kind" "[I" ∈ gw := gw_3 (List.mem_of_getElem? (i := 169) (by decide +kernel)) rfl
theorem gf_M_22 : Cond.fieldLink cn_M 22 cn_M "grade" "[I" ∈ gw := gw_3 (List.mem_of_getElem? (i := 170) (by decide +kernel)) rfl
theorem gf_M_25 : Cond.fieldLink cn_M 25 cn_M "many" "[I" ∈ gw := gw_3 (List.mem_of_getElem? (i := 171) (by decide +kernel)) rfl
theorem gf_M_28 : Cond.fieldLink cn_M 28 cn_M "from" "[I" ∈ gw := gw_3 (List.mem_of_getElem? (i := 172) (by decide +kernel)) rfl
theorem gf_M_31 : Cond.fieldLink cn_M 31 cn_M "to" "[I" ∈ gw := gw_3 (List.mem_of_getElem? (i := 173) (by decide +kernel)) rfl
theorem gf_M_34 : Cond.fieldLink cn_M 34 cn_M "dry" "[Z" ∈ gw := gw_3 (List.mem_of_getElem? (i := 174) (by decide +kernel)) rfl
theorem gf_M_38 : Cond.fieldLink cn_M 38 cn_M "limit" "[I" ∈ gw := gw_3 (List.mem_of_getElem? (i := 175) (by decide +kernel)) rfl
theorem gf_M_91 : Cond.fieldLink cn_M 91 cn_M "allowed" "Z" ∈ gw := gw_3 (List.mem_of_getElem? (i := 176) (by decide +kernel)) rfl
theorem gf_M_104 : Cond.fieldLink cn_M 104 cn_M "tests" "I" ∈ gw := gw_3 (List.mem_of_getElem? (i := 177) (by decide +kernel)) rfl
theorem gf_M_41 : Cond.fieldLink cn_M 41 cn_M "of" "[I" ∈ gw := gw_3 (List.mem_of_getElem? (i := 178) (by decide +kernel)) rfl
theorem gf_M_44 : Cond.fieldLink cn_M 44 cn_M "day" "[I" ∈ gw := gw_3 (List.mem_of_getElem? (i := 179) (by decide +kernel)) rfl
theorem gf_M_47 : Cond.fieldLink cn_M 47 cn_M "rest" "[I" ∈ gw := gw_3 (List.mem_of_getElem? (i := 180) (by decide +kernel)) rfl
theorem gf_M_50 : Cond.fieldLink cn_M 50 cn_M "flow" "[I" ∈ gw := gw_3 (List.mem_of_getElem? (i := 181) (by decide +kernel)) rfl
theorem gf_M_53 : Cond.fieldLink cn_M 53 cn_M "left" "[I" ∈ gw := gw_3 (List.mem_of_getElem? (i := 182) (by decide +kernel)) rfl
theorem gf_M_135 : Cond.fieldLink cn_M 135 cn_M "stops" "I" ∈ gw := gw_3 (List.mem_of_getElem? (i := 183) (by decide +kernel)) rfl
theorem gf_M_56 : Cond.fieldLink cn_M 56 cn_M "told" "[I" ∈ gw := gw_3 (List.mem_of_getElem? (i := 184) (by decide +kernel)) rfl
theorem gf_M_59 : Cond.fieldLink cn_M 59 cn_M "tried" "[I" ∈ gw := gw_3 (List.mem_of_getElem? (i := 185) (by decide +kernel)) rfl
theorem gf_M_62 : Cond.fieldLink cn_M 62 cn_M "best" "[I" ∈ gw := gw_3 (List.mem_of_getElem? (i := 186) (by decide +kernel)) rfl
theorem gar_boolean : Cond.arrayClass .boolean ∈ gw := gw_3 (List.mem_of_getElem? (i := 234) (by decide +kernel)) rfl
theorem gm_L_90 : Cond.methodLink cn_L 90 yy_M_thrown ∈ gw := gw_3 (List.mem_of_getElem? (i := 235) (by decide +kernel)) rfl
theorem gi_M_thrown : Cond.instanceMethod yy_M_thrown ∈ gw := gw_3 (List.mem_of_getElem? (i := 236) (by decide +kernel)) rfl
theorem gs_M_thrown : Cond.selects cn_M yy_M_thrown yy_M_thrown ∈ gw := gw_3 (List.mem_of_getElem? (i := 237) (by decide +kernel)) rfl
theorem gc_M_thrown : Cond.code yy_M_thrown bb_M_thrown 1 (some .int) ∈ gw := gw_3 (List.mem_of_getElem? (i := 238) (by decide +kernel)) rfl
theorem gm_L_89 : Cond.methodLink cn_L 89 yy_M_hydrant ∈ gw := gw_3 (List.mem_of_getElem? (i := 239) (by decide +kernel)) rfl
theorem gi_M_hydrant : Cond.instanceMethod yy_M_hydrant ∈ gw := gw_4 (List.mem_of_getElem? (i := 0) (by decide +kernel)) rfl
theorem gs_M_hydrant : Cond.selects cn_M yy_M_hydrant yy_M_hydrant ∈ gw := gw_4 (List.mem_of_getElem? (i := 1) (by decide +kernel)) rfl
theorem gc_M_hydrant : Cond.code yy_M_hydrant bb_M_hydrant 5 (some .int) ∈ gw := gw_4 (List.mem_of_getElem? (i := 2) (by decide +kernel)) rfl
theorem gm_M_72 : Cond.methodLink cn_M 72 yy_M_in ∈ gw := gw_4 (List.mem_of_getElem? (i := 3) (by decide +kernel)) rfl
theorem gt_M_in : Cond.static yy_M_in ∈ gw := gw_4 (List.mem_of_getElem? (i := 4) (by decide +kernel)) rfl
theorem gc_M_in : Cond.code yy_M_in bb_M_in 3 (some .boolean) ∈ gw := gw_4 (List.mem_of_getElem? (i := 5) (by decide +kernel)) rfl
theorem gm_M_79 : Cond.methodLink cn_M 79 yy_M_isPlace ∈ gw := gw_4 (List.mem_of_getElem? (i := 6) (by decide +kernel)) rfl
theorem gt_M_isPlace : Cond.static yy_M_isPlace ∈ gw := gw_4 (List.mem_of_getElem? (i := 7) (by decide +kernel)) rfl
theorem gc_M_isPlace : Cond.code yy_M_isPlace bb_M_isPlace 2 (some .boolean) ∈ gw := gw_4 (List.mem_of_getElem? (i := 8) (by decide +kernel)) rfl
theorem gq_M_76 : Cond.constant cn_M 76 (-50000) ∈ gw := gw_4 (List.mem_of_getElem? (i := 9) (by decide +kernel)) rfl
theorem gq_M_77 : Cond.constant cn_M 77 (50000) ∈ gw := gw_4 (List.mem_of_getElem? (i := 10) (by decide +kernel)) rfl
theorem gm_M_83 : Cond.methodLink cn_M 83 yy_M_goes ∈ gw := gw_4 (List.mem_of_getElem? (i := 11) (by decide +kernel)) rfl
theorem gi_M_goes : Cond.instanceMethod yy_M_goes ∈ gw := gw_4 (List.mem_of_getElem? (i := 13) (by decide +kernel)) rfl
theorem gc_M_goes : Cond.code yy_M_goes bb_M_goes 5 (some .boolean) ∈ gw := gw_4 (List.mem_of_getElem? (i := 14) (by decide +kernel)) rfl
theorem gm_L_97 : Cond.methodLink cn_L 97 yy_M_limit ∈ gw := gw_4 (List.mem_of_getElem? (i := 15) (by decide +kernel)) rfl
theorem gi_M_limit : Cond.instanceMethod yy_M_limit ∈ gw := gw_4 (List.mem_of_getElem? (i := 16) (by decide +kernel)) rfl
theorem gs_M_limit : Cond.selects cn_M yy_M_limit yy_M_limit ∈ gw := gw_4 (List.mem_of_getElem? (i := 17) (by decide +kernel)) rfl
theorem gc_M_limit : Cond.code yy_M_limit bb_M_limit 3 none ∈ gw := gw_4 (List.mem_of_getElem? (i := 18) (by decide +kernel)) rfl
theorem gm_M_87 : Cond.methodLink cn_M 87 yy_M_isFlow ∈ gw := gw_4 (List.mem_of_getElem? (i := 19) (by decide +kernel)) rfl
theorem gt_M_isFlow : Cond.static yy_M_isFlow ∈ gw := gw_4 (List.mem_of_getElem? (i := 20) (by decide +kernel)) rfl
theorem gc_M_isFlow : Cond.code yy_M_isFlow bb_M_isFlow 1 (some .boolean) ∈ gw := gw_4 (List.mem_of_getElem? (i := 21) (by decide +kernel)) rfl
theorem gm_L_102 : Cond.methodLink cn_L 102 yy_M_allow ∈ gw := gw_4 (List.mem_of_getElem? (i := 22) (by decide +kernel)) rfl
theorem gi_M_allow : Cond.instanceMethod yy_M_allow ∈ gw := gw_4 (List.mem_of_getElem? (i := 23) (by decide +kernel)) rfl
theorem gs_M_allow : Cond.selects cn_M yy_M_allow yy_M_allow ∈ gw := gw_4 (List.mem_of_getElem? (i := 24) (by decide +kernel)) rfl
theorem gc_M_allow : Cond.code yy_M_allow bb_M_allow 2 none ∈ gw := gw_4 (List.mem_of_getElem? (i := 25) (by decide +kernel)) rfl
theorem gm_L_106 : Cond.methodLink cn_L 106 yy_M_test ∈ gw := gw_4 (List.mem_of_getElem? (i := 26) (by decide +kernel)) rfl
theorem gi_M_test : Cond.instanceMethod yy_M_test ∈ gw := gw_4 (List.mem_of_getElem? (i := 27) (by decide +kernel)) rfl
theorem gs_M_test : Cond.selects cn_M yy_M_test yy_M_test ∈ gw := gw_4 (List.mem_of_getElem? (i := 28) (by decide +kernel)) rfl
theorem gc_M_test : Cond.code yy_M_test bb_M_test 6 (some .int) ∈ gw := gw_4 (List.mem_of_getElem? (i := 29) (by decide +kernel)) rfl
theorem gm_M_95 : Cond.methodLink cn_M 95 yy_M_isHydrant ∈ gw := gw_4 (List.mem_of_getElem? (i := 30) (by decide +kernel)) rfl
theorem gi_M_isHydrant : Cond.instanceMethod yy_M_isHydrant ∈ gw := gw_4 (List.mem_of_getElem? (i := 32) (by decide +kernel)) rfl
theorem gc_M_isHydrant : Cond.code yy_M_isHydrant bb_M_isHydrant 2 (some .boolean) ∈ gw := gw_4 (List.mem_of_getElem? (i := 33) (by decide +kernel)) rfl
theorem gm_M_98 : Cond.methodLink cn_M 98 yy_M_isDay ∈ gw := gw_4 (List.mem_of_getElem? (i := 34) (by decide +kernel)) rfl
theorem gt_M_isDay : Cond.static yy_M_isDay ∈ gw := gw_4 (List.mem_of_getElem? (i := 35) (by decide +kernel)) rfl
theorem gc_M_isDay : Cond.code yy_M_isDay bb_M_isDay 1 (some .boolean) ∈ gw := gw_4 (List.mem_of_getElem? (i := 36) (by decide +kernel)) rfl
theorem gq_M_78 : Cond.constant cn_M 78 (99999) ∈ gw := gw_4 (List.mem_of_getElem? (i := 37) (by decide +kernel)) rfl
theorem gm_M_101 : Cond.methodLink cn_M 101 yy_M_isPressure ∈ gw := gw_4 (List.mem_of_getElem? (i := 38) (by decide +kernel)) rfl
theorem gt_M_isPressure : Cond.static yy_M_isPressure ∈ gw := gw_4 (List.mem_of_getElem? (i := 39) (by decide +kernel)) rfl
theorem gc_M_isPressure : Cond.code yy_M_isPressure bb_M_isPressure 1 (some .boolean) ∈ gw := gw_4 (List.mem_of_getElem? (i := 40) (by decide +kernel)) rfl
theorem gm_L_110 : Cond.methodLink cn_L 110 yy_M_flow ∈ gw := gw_4 (List.mem_of_getElem? (i := 41) (by decide +kernel)) rfl
theorem gi_M_flow : Cond.instanceMethod yy_M_flow ∈ gw := gw_4 (List.mem_of_getElem? (i := 42) (by decide +kernel)) rfl
theorem gs_M_flow : Cond.selects cn_M yy_M_flow yy_M_flow ∈ gw := gw_4 (List.mem_of_getElem? (i := 43) (by decide +kernel)) rfl
theorem gc_M_flow : Cond.code yy_M_flow bb_M_flow 8 (some .int) ∈ gw := gw_4 (List.mem_of_getElem? (i := 44) (by decide +kernel)) rfl
theorem gm_M_107 : Cond.methodLink cn_M 107 yy_M_counts ∈ gw := gw_4 (List.mem_of_getElem? (i := 45) (by decide +kernel)) rfl
theorem gi_M_counts : Cond.instanceMethod yy_M_counts ∈ gw := gw_4 (List.mem_of_getElem? (i := 47) (by decide +kernel)) rfl
theorem gc_M_counts : Cond.code yy_M_counts bb_M_counts 4 (some .int) ∈ gw := gw_4 (List.mem_of_getElem? (i := 48) (by decide +kernel)) rfl
theorem gm_M_111 : Cond.methodLink cn_M 111 yy_M_canTell ∈ gw := gw_4 (List.mem_of_getElem? (i := 49) (by decide +kernel)) rfl
theorem gi_M_canTell : Cond.instanceMethod yy_M_canTell ∈ gw := gw_4 (List.mem_of_getElem? (i := 51) (by decide +kernel)) rfl
theorem gc_M_canTell : Cond.code yy_M_canTell bb_M_canTell 3 (some .boolean) ∈ gw := gw_4 (List.mem_of_getElem? (i := 52) (by decide +kernel)) rfl
theorem gm_M_114 : Cond.methodLink cn_M 114 yy_M_down ∈ gw := gw_4 (List.mem_of_getElem? (i := 53) (by decide +kernel)) rfl
theorem gi_M_down : Cond.instanceMethod yy_M_down ∈ gw := gw_4 (List.mem_of_getElem? (i := 55) (by decide +kernel)) rfl
theorem gc_M_down : Cond.code yy_M_down bb_M_down 3 (some .int) ∈ gw := gw_4 (List.mem_of_getElem? (i := 56) (by decide +kernel)) rfl
theorem gm_M_118 : Cond.methodLink cn_M 118 yy_M_up ∈ gw := gw_4 (List.mem_of_getElem? (i := 57) (by decide +kernel)) rfl
theorem gi_M_up : Cond.instanceMethod yy_M_up ∈ gw := gw_4 (List.mem_of_getElem? (i := 59) (by decide +kernel)) rfl
theorem gc_M_up : Cond.code yy_M_up bb_M_up 3 (some .int) ∈ gw := gw_4 (List.mem_of_getElem? (i := 60) (by decide +kernel)) rfl
theorem gm_L_114 : Cond.methodLink cn_L 114 yy_M_sort ∈ gw := gw_4 (List.mem_of_getElem? (i := 61) (by decide +kernel)) rfl
theorem gi_M_sort : Cond.instanceMethod yy_M_sort ∈ gw := gw_4 (List.mem_of_getElem? (i := 62) (by decide +kernel)) rfl
theorem gs_M_sort : Cond.selects cn_M yy_M_sort yy_M_sort ∈ gw := gw_4 (List.mem_of_getElem? (i := 63) (by decide +kernel)) rfl
theorem gc_M_sort : Cond.code yy_M_sort bb_M_sort 4 (some .int) ∈ gw := gw_4 (List.mem_of_getElem? (i := 64) (by decide +kernel)) rfl
theorem gm_L_117 : Cond.methodLink cn_L 117 yy_M_defect ∈ gw := gw_4 (List.mem_of_getElem? (i := 65) (by decide +kernel)) rfl
theorem gi_M_defect : Cond.instanceMethod yy_M_defect ∈ gw := gw_4 (List.mem_of_getElem? (i := 66) (by decide +kernel)) rfl
theorem gs_M_defect : Cond.selects cn_M yy_M_defect yy_M_defect ∈ gw := gw_4 (List.mem_of_getElem? (i := 67) (by decide +kernel)) rfl
theorem gc_M_defect : Cond.code yy_M_defect bb_M_defect 3 none ∈ gw := gw_4 (List.mem_of_getElem? (i := 68) (by decide +kernel)) rfl
theorem gm_L_121 : Cond.methodLink cn_L 121 yy_M_works ∈ gw := gw_4 (List.mem_of_getElem? (i := 69) (by decide +kernel)) rfl
theorem gi_M_works : Cond.instanceMethod yy_M_works ∈ gw := gw_4 (List.mem_of_getElem? (i := 70) (by decide +kernel)) rfl
theorem gs_M_works : Cond.selects cn_M yy_M_works yy_M_works ∈ gw := gw_4 (List.mem_of_getElem? (i := 71) (by decide +kernel)) rfl
theorem gc_M_works : Cond.code yy_M_works bb_M_works 7 none ∈ gw := gw_4 (List.mem_of_getElem? (i := 72) (by decide +kernel)) rfl
theorem gm_L_125 : Cond.methodLink cn_L 125 yy_M_season ∈ gw := gw_4 (List.mem_of_getElem? (i := 73) (by decide +kernel)) rfl
theorem gi_M_season : Cond.instanceMethod yy_M_season ∈ gw := gw_4 (List.mem_of_getElem? (i := 74) (by decide +kernel)) rfl
theorem gs_M_season : Cond.selects cn_M yy_M_season yy_M_season ∈ gw := gw_4 (List.mem_of_getElem? (i := 75) (by decide +kernel)) rfl
theorem gc_M_season : Cond.code yy_M_season bb_M_season 4 none ∈ gw := gw_4 (List.mem_of_getElem? (i := 76) (by decide +kernel)) rfl
theorem gm_L_129 : Cond.methodLink cn_L 129 yy_M_usable ∈ gw := gw_4 (List.mem_of_getElem? (i := 77) (by decide +kernel)) rfl
theorem gi_M_usable : Cond.instanceMethod yy_M_usable ∈ gw := gw_4 (List.mem_of_getElem? (i := 78) (by decide +kernel)) rfl
theorem gs_M_usable : Cond.selects cn_M yy_M_usable yy_M_usable ∈ gw := gw_4 (List.mem_of_getElem? (i := 79) (by decide +kernel)) rfl
theorem gc_M_usable : Cond.code yy_M_usable bb_M_usable 3 (some .boolean) ∈ gw := gw_4 (List.mem_of_getElem? (i := 80) (by decide +kernel)) rfl
theorem gm_M_121 : Cond.methodLink cn_M 121 yy_M_isUsable ∈ gw := gw_4 (List.mem_of_getElem? (i := 81) (by decide +kernel)) rfl
theorem gi_M_isUsable : Cond.instanceMethod yy_M_isUsable ∈ gw := gw_4 (List.mem_of_getElem? (i := 83) (by decide +kernel)) rfl
theorem gc_M_isUsable : Cond.code yy_M_isUsable bb_M_isUsable 4 (some .boolean) ∈ gw := gw_4 (List.mem_of_getElem? (i := 84) (by decide +kernel)) rfl
theorem gm_L_132 : Cond.methodLink cn_L 132 yy_M_near ∈ gw := gw_4 (List.mem_of_getElem? (i := 85) (by decide +kernel)) rfl
theorem gi_M_near : Cond.instanceMethod yy_M_near ∈ gw := gw_4 (List.mem_of_getElem? (i := 86) (by decide +kernel)) rfl
theorem gs_M_near : Cond.selects cn_M yy_M_near yy_M_near ∈ gw := gw_4 (List.mem_of_getElem? (i := 87) (by decide +kernel)) rfl
theorem gc_M_near : Cond.code yy_M_near bb_M_near 10 (some .int) ∈ gw := gw_4 (List.mem_of_getElem? (i := 88) (by decide +kernel)) rfl
theorem gm_M_127 : Cond.methodLink cn_M 127 yy_M_hose ∈ gw := gw_4 (List.mem_of_getElem? (i := 89) (by decide +kernel)) rfl
theorem gi_M_hose : Cond.instanceMethod yy_M_hose ∈ gw := gw_4 (List.mem_of_getElem? (i := 91) (by decide +kernel)) rfl
theorem gc_M_hose : Cond.code yy_M_hose bb_M_hose 4 (some .int) ∈ gw := gw_4 (List.mem_of_getElem? (i := 92) (by decide +kernel)) rfl
theorem gm_M_124 : Cond.methodLink cn_M 124 yy_M_size ∈ gw := gw_4 (List.mem_of_getElem? (i := 93) (by decide +kernel)) rfl
theorem gt_M_size : Cond.static yy_M_size ∈ gw := gw_4 (List.mem_of_getElem? (i := 94) (by decide +kernel)) rfl
theorem gc_M_size : Cond.code yy_M_size bb_M_size 1 (some .int) ∈ gw := gw_4 (List.mem_of_getElem? (i := 95) (by decide +kernel)) rfl
theorem gm_L_135 : Cond.methodLink cn_L 135 yy_M_both ∈ gw := gw_4 (List.mem_of_getElem? (i := 96) (by decide +kernel)) rfl
theorem gi_M_both : Cond.instanceMethod yy_M_both ∈ gw := gw_4 (List.mem_of_getElem? (i := 97) (by decide +kernel)) rfl
theorem gs_M_both : Cond.selects cn_M yy_M_both yy_M_both ∈ gw := gw_4 (List.mem_of_getElem? (i := 98) (by decide +kernel)) rfl
theorem gc_M_both : Cond.code yy_M_both bb_M_both 8 (some .int) ∈ gw := gw_4 (List.mem_of_getElem? (i := 99) (by decide +kernel)) rfl
theorem gm_M_131 : Cond.methodLink cn_M 131 yy_M_whole ∈ gw := gw_4 (List.mem_of_getElem? (i := 100) (by decide +kernel)) rfl
theorem gi_M_whole : Cond.instanceMethod yy_M_whole ∈ gw := gw_4 (List.mem_of_getElem? (i := 102) (by decide +kernel)) rfl
theorem gc_M_whole : Cond.code yy_M_whole bb_M_whole 3 (some .int) ∈ gw := gw_4 (List.mem_of_getElem? (i := 103) (by decide +kernel)) rfl
theorem gm_L_138 : Cond.methodLink cn_L 138 yy_M_supply ∈ gw := gw_4 (List.mem_of_getElem? (i := 104) (by decide +kernel)) rfl
theorem gi_M_supply : Cond.instanceMethod yy_M_supply ∈ gw := gw_4 (List.mem_of_getElem? (i := 105) (by decide +kernel)) rfl
theorem gs_M_supply : Cond.selects cn_M yy_M_supply yy_M_supply ∈ gw := gw_4 (List.mem_of_getElem? (i := 106) (by decide +kernel)) rfl
theorem gc_M_supply : Cond.code yy_M_supply bb_M_supply 10 (some .int) ∈ gw := gw_4 (List.mem_of_getElem? (i := 107) (by decide +kernel)) rfl
theorem gq_M_134 : Cond.constant cn_M 134 (200000) ∈ gw := gw_4 (List.mem_of_getElem? (i := 108) (by decide +kernel)) rfl
theorem gm_L_144 : Cond.methodLink cn_L 144 yy_M_round ∈ gw := gw_4 (List.mem_of_getElem? (i := 109) (by decide +kernel)) rfl
theorem gi_M_round : Cond.instanceMethod yy_M_round ∈ gw := gw_4 (List.mem_of_getElem? (i := 110) (by decide +kernel)) rfl
theorem gs_M_round : Cond.selects cn_M yy_M_round yy_M_round ∈ gw := gw_4 (List.mem_of_getElem? (i := 111) (by decide +kernel)) rfl
theorem gc_M_round : Cond.code yy_M_round bb_M_round 11 (some .int) ∈ gw := gw_4 (List.mem_of_getElem? (i := 112) (by decide +kernel)) rfl
theorem gm_M_138 : Cond.methodLink cn_M 138 yy_M_arranges ∈ gw := gw_4 (List.mem_of_getElem? (i := 113) (by decide +kernel)) rfl
theorem gi_M_arranges : Cond.instanceMethod yy_M_arranges ∈ gw := gw_4 (List.mem_of_getElem? (i := 115) (by decide +kernel)) rfl
theorem gc_M_arranges : Cond.code yy_M_arranges bb_M_arranges 7 (some .boolean) ∈ gw := gw_4 (List.mem_of_getElem? (i := 116) (by decide +kernel)) rfl
theorem gm_M_141 : Cond.methodLink cn_M 141 yy_M_metres ∈ gw := gw_4 (List.mem_of_getElem? (i := 117) (by decide +kernel)) rfl
theorem gi_M_metres : Cond.instanceMethod yy_M_metres ∈ gw := gw_4 (List.mem_of_getElem? (i := 119) (by decide +kernel)) rfl
theorem gc_M_metres : Cond.code yy_M_metres bb_M_metres 6 (some .int) ∈ gw := gw_4 (List.mem_of_getElem? (i := 120) (by decide +kernel)) rfl
theorem gm_M_144 : Cond.methodLink cn_M 144 yy_M_isAhead ∈ gw := gw_4 (List.mem_of_getElem? (i := 121) (by decide +kernel)) rfl
theorem gi_M_isAhead : Cond.instanceMethod yy_M_isAhead ∈ gw := gw_4 (List.mem_of_getElem? (i := 123) (by decide +kernel)) rfl
theorem gc_M_isAhead : Cond.code yy_M_isAhead bb_M_isAhead 3 (some .boolean) ∈ gw := gw_4 (List.mem_of_getElem? (i := 124) (by decide +kernel)) rfl
theorem gm_L_147 : Cond.methodLink cn_L 147 yy_M_stop ∈ gw := gw_4 (List.mem_of_getElem? (i := 125) (by decide +kernel)) rfl
theorem gi_M_stop : Cond.instanceMethod yy_M_stop ∈ gw := gw_4 (List.mem_of_getElem? (i := 126) (by decide +kernel)) rfl
theorem gs_M_stop : Cond.selects cn_M yy_M_stop yy_M_stop ∈ gw := gw_4 (List.mem_of_getElem? (i := 127) (by decide +kernel)) rfl
theorem gc_M_stop : Cond.code yy_M_stop bb_M_stop 2 (some .int) ∈ gw := gw_4 (List.mem_of_getElem? (i := 128) (by decide +kernel)) rfl
theorem gm_L_150 : Cond.methodLink cn_L 150 yy_M_overdue ∈ gw := gw_4 (List.mem_of_getElem? (i := 129) (by decide +kernel)) rfl
theorem gi_M_overdue : Cond.instanceMethod yy_M_overdue ∈ gw := gw_4 (List.mem_of_getElem? (i := 130) (by decide +kernel)) rfl
theorem gs_M_overdue : Cond.selects cn_M yy_M_overdue yy_M_overdue ∈ gw := gw_4 (List.mem_of_getElem? (i := 131) (by decide +kernel)) rfl
theorem gc_M_overdue : Cond.code yy_M_overdue bb_M_overdue 10 (some .int) ∈ gw := gw_4 (List.mem_of_getElem? (i := 132) (by decide +kernel)) rfl
theorem gm_M_147 : Cond.methodLink cn_M 147 yy_M_late ∈ gw := gw_4 (List.mem_of_getElem? (i := 133) (by decide +kernel)) rfl
theorem gi_M_late : Cond.instanceMethod yy_M_late ∈ gw := gw_4 (List.mem_of_getElem? (i := 135) (by decide +kernel)) rfl
theorem gc_M_late : Cond.code yy_M_late bb_M_late 5 (some .int) ∈ gw := gw_4 (List.mem_of_getElem? (i := 136) (by decide +kernel)) rfl
theorem gm_L_153 : Cond.methodLink cn_L 153 yy_M_testAt ∈ gw := gw_4 (List.mem_of_getElem? (i := 137) (by decide +kernel)) rfl
theorem gi_M_testAt : Cond.instanceMethod yy_M_testAt ∈ gw := gw_4 (List.mem_of_getElem? (i := 138) (by decide +kernel)) rfl
theorem gs_M_testAt : Cond.selects cn_M yy_M_testAt yy_M_testAt ∈ gw := gw_4 (List.mem_of_getElem? (i := 139) (by decide +kernel)) rfl
theorem gc_M_testAt : Cond.code yy_M_testAt bb_M_testAt 3 (some .int) ∈ gw := gw_4 (List.mem_of_getElem? (i := 140) (by decide +kernel)) rfl
theorem gm_L_156 : Cond.methodLink cn_L 156 yy_M_hydrantAt ∈ gw := gw_4 (List.mem_of_getElem? (i := 141) (by decide +kernel)) rfl
theorem gi_M_hydrantAt : Cond.instanceMethod yy_M_hydrantAt ∈ gw := gw_4 (List.mem_of_getElem? (i := 142) (by decide +kernel)) rfl
theorem gs_M_hydrantAt : Cond.selects cn_M yy_M_hydrantAt yy_M_hydrantAt ∈ gw := gw_4 (List.mem_of_getElem? (i := 143) (by decide +kernel)) rfl
theorem gc_M_hydrantAt : Cond.code yy_M_hydrantAt bb_M_hydrantAt 5 (some .int) ∈ gw := gw_4 (List.mem_of_getElem? (i := 144) (by decide +kernel)) rfl
theorem gq_L_139 : Cond.constantLong cn_L 139 (4294967295) ∈ gw := gw_4 (List.mem_of_getElem? (i := 145) (by decide +kernel)) rfl
theorem gar_long : Cond.arrayClass .long ∈ gw := gw_4 (List.mem_of_getElem? (i := 146) (by decide +kernel)) rfl
theorem gs_C_needMain : Cond.selects cn_C yy_C_needMain yy_C_needMain ∈ gw := gw_0 (by decide +kernel) rfl
theorem gs_C_known : Cond.selects cn_C yy_C_known yy_C_known ∈ gw := gw_0 (by decide +kernel) rfl
theorem gs_C_limitOf : Cond.selects cn_C yy_C_limitOf yy_C_limitOf ∈ gw := gw_0 (by decide +kernel) rfl
theorem gs_C_supplyOfMain : Cond.selects cn_C yy_C_supplyOfMain yy_C_supplyOfMain ∈ gw := gw_0 (by decide +kernel) rfl
theorem gs_A_goOn : Cond.selects cn_A yy_A_goOn yy_A_goOn ∈ gw := gw_0 (by decide +kernel) rfl
theorem gs_A_keepWay : Cond.selects cn_A yy_A_keepWay yy_A_keepWay ∈ gw := gw_0 (by decide +kernel) rfl
theorem gs_M_goes : Cond.selects cn_M yy_M_goes yy_M_goes ∈ gw := gw_0 (by decide +kernel) rfl
theorem gs_M_isHydrant : Cond.selects cn_M yy_M_isHydrant yy_M_isHydrant ∈ gw := gw_0 (by decide +kernel) rfl
theorem gs_M_counts : Cond.selects cn_M yy_M_counts yy_M_counts ∈ gw := gw_0 (by decide +kernel) rfl
theorem gs_M_canTell : Cond.selects cn_M yy_M_canTell yy_M_canTell ∈ gw := gw_0 (by decide +kernel) rfl
theorem gs_M_down : Cond.selects cn_M yy_M_down yy_M_down ∈ gw := gw_0 (by decide +kernel) rfl
theorem gs_M_up : Cond.selects cn_M yy_M_up yy_M_up ∈ gw := gw_0 (by decide +kernel) rfl
theorem gs_M_isUsable : Cond.selects cn_M yy_M_isUsable yy_M_isUsable ∈ gw := gw_0 (by decide +kernel) rfl
theorem gs_M_hose : Cond.selects cn_M yy_M_hose yy_M_hose ∈ gw := gw_0 (by decide +kernel) rfl
theorem gs_M_whole : Cond.selects cn_M yy_M_whole yy_M_whole ∈ gw := gw_0 (by decide +kernel) rfl
theorem gs_M_arranges : Cond.selects cn_M yy_M_arranges yy_M_arranges ∈ gw := gw_0 (by decide +kernel) rfl
theorem gs_M_metres : Cond.selects cn_M yy_M_metres yy_M_metres ∈ gw := gw_0 (by decide +kernel) rfl
theorem gs_M_isAhead : Cond.selects cn_M yy_M_isAhead yy_M_isAhead ∈ gw := gw_0 (by decide +kernel) rfl
theorem gs_M_late : Cond.selects cn_M yy_M_late yy_M_late ∈ gw := gw_0 (by decide +kernel) rfl
set_option maxRecDepth 100000 in
theorem gu_C : ∀ w ∈ u_ws cn_C cf_C 8, w ∈ gw := by decide +kernel
set_option maxRecDepth 100000 in
theorem gu_H : ∀ w ∈ u_ws cn_H cf_H 11, w ∈ gw := by decide +kernel
set_option maxRecDepth 100000 in
theorem gu_T : ∀ w ∈ u_ws cn_T cf_T 6, w ∈ gw := by decide +kernel
set_option maxRecDepth 100000 in
theorem gu_O : ∀ w ∈ u_ws cn_O cf_O 2, w ∈ gw := by decide +kernel
set_option maxRecDepth 100000 in
theorem gu_K : ∀ w ∈ u_ws cn_K cf_K 2, w ∈ gw := by decide +kernel
set_option maxRecDepth 100000 in
theorem gu_A : ∀ w ∈ u_ws cn_A cf_A 5, w ∈ gw := by decide +kernel
set_option maxRecDepth 100000 in
theorem gu_M : ∀ w ∈ u_ws cn_M cf_M 23, w ∈ gw := by decide +kernel
