/-! names: classes, fields, methods, words in the tables, by program (wip/whole/gen/mknames.py) -/
def TBL : List Cond := lw_tbl.filter goodWord
theorem mT {w : Cond} (h : w ∈ tables_1) (g : goodWord w = true) : w ∈ TBL := List.mem_filter.mpr ⟨List.mem_append_right _ h, g⟩
theorem mS {q : MethodName × Nat} (h : q ∈ lw_privs) (g : goodWord (Cond.selects q.1.cls q.1 q.1) = true) : Cond.selects q.1.cls q.1 q.1 ∈ TBL := List.mem_filter.mpr ⟨List.mem_append_left _ (List.mem_map.mpr ⟨q, h, rfl⟩), g⟩
def T_A : u_T := fun k => match k with
  | 0 => ("java/util/AbstractList", "modCount", "I", false)
  | 1 => ("java/util/ArrayList", "elementData", "[Ljava/lang/Object;", false)
  | _ => ("java/util/ArrayList", "size", "I", false)
def ty_A : Nat → FieldType := fun k => match k with
  | 0 => .int
  | 1 => (.array (.object "java/lang/Object"))
  | _ => .int
theorem nm_A : ∀ a, a < 3 → ∀ b, b < 3 → a ≠ b → (T_A a).2.1 ≠ (T_A b).2.1 := by decide +kernel
theorem tyk_A : ∀ k, k < 3 → parseFieldDescriptor (T_A k).2.2.1 = some (ty_A k) := by decide +kernel
def T_C : u_T := fun k => match k with
  | 0 => ("RuleClasses", "most", "I", true)
  | 1 => ("RuleClasses", "editions", "Ljava/util/ArrayList;", true)
  | 2 => ("RuleClasses", "kept", "Ljava/util/ArrayList;", true)
  | 3 => ("RuleClasses", "facts", "LRuleClasses$Facts;", true)
  | 4 => ("RuleClasses", "run", "LRuleClasses$Run;", true)
  | 5 => ("RuleClasses", "runBeside", "LRuleClasses$Run;", true)
  | 6 => ("RuleClasses", "fallbacks", "[I", true)
  | 7 => ("RuleClasses", "failures", "[I", true)
  | 8 => ("RuleClasses", "shadows", "[I", true)
  | 9 => ("RuleClasses", "differences", "[I", true)
  | 10 => ("RuleClasses", "day", "I", false)
  | 11 => ("RuleClasses", "questions", "I", false)
  | 12 => ("RuleClasses", "handles", "I", false)
  | 13 => ("RuleClasses", "livingHandle", "I", false)
  | _ => ("RuleClasses", "handledEdition", "I", false)
def ty_C : Nat → FieldType := fun k => match k with
  | 0 => .int
  | 1 => (.object "java/util/ArrayList")
  | 2 => (.object "java/util/ArrayList")
  | 3 => (.object "RuleClasses$Facts")
  | 4 => (.object "RuleClasses$Run")
  | 5 => (.object "RuleClasses$Run")
  | 6 => (.array .int)
  | 7 => (.array .int)
  | 8 => (.array .int)
  | 9 => (.array .int)
  | 10 => .int
  | 11 => .int
  | 12 => .int
  | 13 => .int
  | _ => .int
theorem nm_C : ∀ a, a < 15 → ∀ b, b < 15 → a ≠ b → (T_C a).2.1 ≠ (T_C b).2.1 := by decide +kernel
theorem tyk_C : ∀ k, k < 15 → parseFieldDescriptor (T_C k).2.2.1 = some (ty_C k) := by decide +kernel
def T_E : u_T := fun k => match k with
  | 0 => ("RuleClasses$Edition", "owner", "I", true)
  | 1 => ("RuleClasses$Edition", "kind", "I", true)
  | 2 => ("RuleClasses$Edition", "day", "I", true)
  | 3 => ("RuleClasses$Edition", "ops", "[I", true)
  | 4 => ("RuleClasses$Edition", "constants", "[I", true)
  | 5 => ("RuleClasses$Edition", "length", "I", false)
  | 6 => ("RuleClasses$Edition", "made", "Z", false)
  | 7 => ("RuleClasses$Edition", "timesAsked", "I", false)
  | 8 => ("RuleClasses$Edition", "stepsAsked", "I", false)
  | _ => ("RuleClasses$Edition", "timesFailed", "I", false)
def ty_E : Nat → FieldType := fun k => match k with
  | 0 => .int
  | 1 => .int
  | 2 => .int
  | 3 => (.array .int)
  | 4 => (.array .int)
  | 5 => .int
  | 6 => .boolean
  | 7 => .int
  | 8 => .int
  | _ => .int
theorem nm_E : ∀ a, a < 10 → ∀ b, b < 10 → a ≠ b → (T_E a).2.1 ≠ (T_E b).2.1 := by decide +kernel
theorem tyk_E : ∀ k, k < 10 → parseFieldDescriptor (T_E k).2.2.1 = some (ty_E k) := by decide +kernel
def T_F : u_T := fun k => match k with
  | _ => ("RuleClasses$Facts", "values", "[I", true)
def ty_F : Nat → FieldType := fun k => match k with
  | _ => (.array .int)
theorem nm_F : ∀ a, a < 1 → ∀ b, b < 1 → a ≠ b → (T_F a).2.1 ≠ (T_F b).2.1 := by decide +kernel
theorem tyk_F : ∀ k, k < 1 → parseFieldDescriptor (T_F k).2.2.1 = some (ty_F k) := by decide +kernel
def T_U : u_T := fun k => match k with
  | 0 => ("RuleClasses$Run", "most", "I", true)
  | 1 => ("RuleClasses$Run", "stack", "[I", true)
  | 2 => ("RuleClasses$Run", "height", "I", false)
  | 3 => ("RuleClasses$Run", "next", "I", false)
  | 4 => ("RuleClasses$Run", "outcome", "I", false)
  | 5 => ("RuleClasses$Run", "answer", "I", false)
  | _ => ("RuleClasses$Run", "steps", "I", false)
def ty_U : Nat → FieldType := fun k => match k with
  | 0 => .int
  | 1 => (.array .int)
  | 2 => .int
  | 3 => .int
  | 4 => .int
  | 5 => .int
  | _ => .int
theorem nm_U : ∀ a, a < 7 → ∀ b, b < 7 → a ≠ b → (T_U a).2.1 ≠ (T_U b).2.1 := by decide +kernel
theorem tyk_U : ∀ k, k < 7 → parseFieldDescriptor (T_U k).2.2.1 = some (ty_U k) := by decide +kernel
def T_M : u_T := fun k => match k with
  | 0 => ("RuleClassesModel", "most", "I", true)
  | 1 => ("RuleClassesModel", "editions", "I", false)
  | 2 => ("RuleClassesModel", "day", "I", false)
  | 3 => ("RuleClassesModel", "thrown", "I", false)
  | 4 => ("RuleClassesModel", "questions", "I", false)
  | 5 => ("RuleClassesModel", "kept", "I", false)
  | 6 => ("RuleClassesModel", "handles", "I", false)
  | 7 => ("RuleClassesModel", "handled", "I", false)
  | 8 => ("RuleClassesModel", "owner", "[I", true)
  | 9 => ("RuleClassesModel", "kind", "[I", true)
  | 10 => ("RuleClassesModel", "from", "[I", true)
  | 11 => ("RuleClassesModel", "made", "[Z", true)
  | 12 => ("RuleClassesModel", "asked", "[I", true)
  | 13 => ("RuleClassesModel", "stepsOf", "[I", true)
  | 14 => ("RuleClassesModel", "fails", "[I", true)
  | 15 => ("RuleClassesModel", "many", "[I", true)
  | 16 => ("RuleClassesModel", "ops", "[I", true)
  | 17 => ("RuleClassesModel", "constants", "[I", true)
  | 18 => ("RuleClassesModel", "facts", "[I", true)
  | 19 => ("RuleClassesModel", "keptFacts", "[I", true)
  | 20 => ("RuleClassesModel", "fallbacks", "[I", true)
  | 21 => ("RuleClassesModel", "failures", "[I", true)
  | 22 => ("RuleClassesModel", "shadows", "[I", true)
  | 23 => ("RuleClassesModel", "others", "[I", true)
  | 24 => ("RuleClassesModel", "stack", "[J", true)
  | 25 => ("RuleClassesModel", "put", "I", false)
  | 26 => ("RuleClassesModel", "steps", "I", false)
  | 27 => ("RuleClassesModel", "next", "I", false)
  | 28 => ("RuleClassesModel", "answer", "J", false)
  | _ => ("RuleClassesModel", "given", "[I", true)
def ty_M : Nat → FieldType := fun k => match k with
  | 0 => .int
  | 1 => .int
  | 2 => .int
  | 3 => .int
  | 4 => .int
  | 5 => .int
  | 6 => .int
  | 7 => .int
  | 8 => (.array .int)
  | 9 => (.array .int)
  | 10 => (.array .int)
  | 11 => (.array .boolean)
  | 12 => (.array .int)
  | 13 => (.array .int)
  | 14 => (.array .int)
  | 15 => (.array .int)
  | 16 => (.array .int)
  | 17 => (.array .int)
  | 18 => (.array .int)
  | 19 => (.array .int)
  | 20 => (.array .int)
  | 21 => (.array .int)
  | 22 => (.array .int)
  | 23 => (.array .int)
  | 24 => (.array .long)
  | 25 => .int
  | 26 => .int
  | 27 => .int
  | 28 => .long
  | _ => (.array .int)
theorem nm_M : ∀ a, a < 30 → ∀ b, b < 30 → a ≠ b → (T_M a).2.1 ≠ (T_M b).2.1 := by decide +kernel
theorem tyk_M : ∀ k, k < 30 → parseFieldDescriptor (T_M k).2.2.1 = some (ty_M k) := by decide +kernel
abbrev vwCl : List vw_C := [("java/util/ArrayList", T_A, 3), ("RuleClasses", T_C, 15), ("RuleClasses$Edition", T_E, 10), ("RuleClasses$Facts", T_F, 1), ("RuleClasses$Run", T_U, 7), ("RuleClassesModel", T_M, 30)]
def y_C_init : MethodName := ⟨"RuleClasses", "<init>", "(I)V"⟩
abbrev b_C_init : ByteArray := prog_1_method_1_code
def y_A_init : MethodName := ⟨"java/util/ArrayList", "<init>", "()V"⟩
abbrev b_A_init : ByteArray := prog_22_method_2_code
def y_AL_init : MethodName := ⟨"java/util/AbstractList", "<init>", "()V"⟩
abbrev b_AL_init : ByteArray := prog_21_method_1_code
def y_AC_init : MethodName := ⟨"java/util/AbstractCollection", "<init>", "()V"⟩
abbrev b_AC_init : ByteArray := prog_20_method_1_code
def y_F_init : MethodName := ⟨"RuleClasses$Facts", "<init>", "()V"⟩
abbrev b_F_init : ByteArray := prog_3_method_1_code
def y_MA_min : MethodName := ⟨"java/lang/Math", "min", "(II)I"⟩
abbrev b_MA_min : ByteArray := prog_14_method_69_code
def y_MA_max : MethodName := ⟨"java/lang/Math", "max", "(II)I"⟩
abbrev b_MA_max : ByteArray := prog_14_method_65_code
def y_U_init : MethodName := ⟨"RuleClasses$Run", "<init>", "(I)V"⟩
abbrev b_U_init : ByteArray := prog_4_method_1_code
def y_C_count : MethodName := ⟨"RuleClasses", "count", "(I)I"⟩
abbrev b_C_count : ByteArray := prog_1_method_20_code
def y_A_size : MethodName := ⟨"java/util/ArrayList", "size", "()I"⟩
abbrev b_A_size : ByteArray := prog_22_method_8_code
def y_C_madeEditions : MethodName := ⟨"RuleClasses", "madeEditions", "()I"⟩
abbrev b_C_madeEditions : ByteArray := prog_1_method_32_code
def y_A_get : MethodName := ⟨"java/util/ArrayList", "get", "(I)Ljava/lang/Object;"⟩
abbrev b_A_get : ByteArray := prog_22_method_20_code
def y_OB_checkIndex : MethodName := ⟨"java/util/Objects", "checkIndex", "(II)I"⟩
abbrev b_OB_checkIndex : ByteArray := prog_27_method_17_code
def y_PC_checkIndex : MethodName := ⟨"jdk/internal/util/Preconditions", "checkIndex", "(IILjava/util/function/BiFunction;)I"⟩
abbrev b_PC_checkIndex : ByteArray := prog_31_method_11_code
def y_A_elementData : MethodName := ⟨"java/util/ArrayList", "elementData", "(I)Ljava/lang/Object;"⟩
abbrev b_A_elementData : ByteArray := prog_22_method_18_code
def y_C_failedQuestions : MethodName := ⟨"RuleClasses", "failedQuestions", "()I"⟩
abbrev b_C_failedQuestions : ByteArray := prog_1_method_33_code
def y_L_cell : MethodName := ⟨"RuleClassesLaw", "cell", "([II)I"⟩
abbrev b_L_cell : ByteArray := method_2_code
def y_L_today : MethodName := ⟨"RuleClassesLaw", "today", "(LRuleClasses;I)I"⟩
abbrev b_L_today : ByteArray := method_3_code
def y_C_today : MethodName := ⟨"RuleClasses", "today", "(I)V"⟩
abbrev b_C_today : ByteArray := prog_1_method_2_code
def y_C_requireRange : MethodName := ⟨"RuleClasses", "requireRange", "(III)V"⟩
abbrev b_C_requireRange : ByteArray := prog_1_method_21_code
def y_C_endHandle : MethodName := ⟨"RuleClasses", "endHandle", "()V"⟩
abbrev b_C_endHandle : ByteArray := prog_1_method_29_code
def y_L_rule : MethodName := ⟨"RuleClassesLaw", "rule", "(LRuleClasses;III[J)I"⟩
abbrev b_L_rule : ByteArray := method_4_code
def y_C_rule : MethodName := ⟨"RuleClasses", "rule", "(III)I"⟩
abbrev b_C_rule : ByteArray := prog_1_method_3_code
def y_C_requireOwnerAndKind : MethodName := ⟨"RuleClasses", "requireOwnerAndKind", "(II)V"⟩
abbrev b_C_requireOwnerAndKind : ByteArray := prog_1_method_22_code
def y_E_init : MethodName := ⟨"RuleClasses$Edition", "<init>", "(III)V"⟩
abbrev b_E_init : ByteArray := prog_2_method_1_code
def y_A_add : MethodName := ⟨"java/util/ArrayList", "add", "(Ljava/lang/Object;)Z"⟩
abbrev b_A_add : ByteArray := prog_22_method_25_code
def y_A_add2 : MethodName := ⟨"java/util/ArrayList", "add", "(Ljava/lang/Object;[Ljava/lang/Object;I)V"⟩
abbrev b_A_add2 : ByteArray := prog_22_method_24_code
def y_A_grow : MethodName := ⟨"java/util/ArrayList", "grow", "()[Ljava/lang/Object;"⟩
abbrev b_A_grow : ByteArray := prog_22_method_7_code
def y_A_grow2 : MethodName := ⟨"java/util/ArrayList", "grow", "(I)[Ljava/lang/Object;"⟩
abbrev b_A_grow2 : ByteArray := prog_22_method_6_code
def y_AS_newLength : MethodName := ⟨"jdk/internal/util/ArraysSupport", "newLength", "(III)I"⟩
abbrev b_AS_newLength : ByteArray := prog_30_method_27_code
def y_AS_hugeLength : MethodName := ⟨"jdk/internal/util/ArraysSupport", "hugeLength", "(II)I"⟩
abbrev b_AS_hugeLength : ByteArray := prog_30_method_28_code
def y_AR_copyOf : MethodName := ⟨"java/util/Arrays", "copyOf", "([Ljava/lang/Object;I)[Ljava/lang/Object;"⟩
abbrev b_AR_copyOf : ByteArray := prog_23_method_119_code
def y_AR_copyOf2 : MethodName := ⟨"java/util/Arrays", "copyOf", "([Ljava/lang/Object;ILjava/lang/Class;)[Ljava/lang/Object;"⟩
abbrev b_AR_copyOf2 : ByteArray := prog_23_method_120_code
def y_L_op : MethodName := ⟨"RuleClassesLaw", "op", "(LRuleClasses;III[J)I"⟩
abbrev b_L_op : ByteArray := method_5_code
def y_C_op : MethodName := ⟨"RuleClasses", "op", "(III)I"⟩
abbrev b_C_op : ByteArray := prog_1_method_4_code
def y_C_editionAt : MethodName := ⟨"RuleClasses", "editionAt", "(I)LRuleClasses$Edition;"⟩
abbrev b_C_editionAt : ByteArray := prog_1_method_25_code
def y_C_requireEdition : MethodName := ⟨"RuleClasses", "requireEdition", "(I)V"⟩
abbrev b_C_requireEdition : ByteArray := prog_1_method_24_code
def y_C_leastConstant : MethodName := ⟨"RuleClasses", "leastConstant", "(I)I"⟩
abbrev b_C_leastConstant : ByteArray := prog_1_method_26_code
def y_C_greatestConstant : MethodName := ⟨"RuleClasses", "greatestConstant", "(I)I"⟩
abbrev b_C_greatestConstant : ByteArray := prog_1_method_27_code
def y_C_requireNotMade : MethodName := ⟨"RuleClasses", "requireNotMade", "(LRuleClasses$Edition;)V"⟩
abbrev b_C_requireNotMade : ByteArray := prog_1_method_23_code
def y_E_append : MethodName := ⟨"RuleClasses$Edition", "append", "(II)V"⟩
abbrev b_E_append : ByteArray := prog_2_method_2_code
def y_L_make : MethodName := ⟨"RuleClassesLaw", "make", "(LRuleClasses;I[J)I"⟩
abbrev b_L_make : ByteArray := method_6_code
def y_C_make : MethodName := ⟨"RuleClasses", "make", "(I)I"⟩
abbrev b_C_make : ByteArray := prog_1_method_5_code
def y_U_start : MethodName := ⟨"RuleClasses$Run", "start", "(LRuleClasses$Edition;LRuleClasses$Facts;)V"⟩
abbrev b_U_start : ByteArray := prog_4_method_3_code
def y_U_clear : MethodName := ⟨"RuleClasses$Run", "clear", "()V"⟩
abbrev b_U_clear : ByteArray := prog_4_method_5_code
def y_U_outcomeOf : MethodName := ⟨"RuleClasses$Run", "outcomeOf", "(LRuleClasses$Edition;LRuleClasses$Facts;)I"⟩
abbrev b_U_outcomeOf : ByteArray := prog_4_method_6_code
def y_U_step : MethodName := ⟨"RuleClasses$Run", "step", "(LRuleClasses$Edition;ILRuleClasses$Facts;)I"⟩
abbrev b_U_step : ByteArray := prog_4_method_7_code
def y_U_needed : MethodName := ⟨"RuleClasses$Run", "needed", "(I)I"⟩
abbrev b_U_needed : ByteArray := prog_4_method_8_code
def y_U_put : MethodName := ⟨"RuleClasses$Run", "put", "(J)I"⟩
abbrev b_U_put : ByteArray := prog_4_method_11_code
def y_U_take : MethodName := ⟨"RuleClasses$Run", "take", "()I"⟩
abbrev b_U_take : ByteArray := prog_4_method_10_code
def y_U_join : MethodName := ⟨"RuleClasses$Run", "join", "(I)I"⟩
abbrev b_U_join : ByteArray := prog_4_method_9_code
def y_L_fact : MethodName := ⟨"RuleClassesLaw", "fact", "(LRuleClasses;II)I"⟩
abbrev b_L_fact : ByteArray := method_7_code
def y_C_fact : MethodName := ⟨"RuleClasses", "fact", "(II)V"⟩
abbrev b_C_fact : ByteArray := prog_1_method_6_code
def y_L_ask : MethodName := ⟨"RuleClassesLaw", "ask", "(LRuleClasses;II[J)I"⟩
abbrev b_L_ask : ByteArray := method_8_code
def y_C_ask : MethodName := ⟨"RuleClasses", "ask", "(II)I"⟩
abbrev b_C_ask : ByteArray := prog_1_method_7_code
def y_C_countingEdition : MethodName := ⟨"RuleClasses", "countingEdition", "(III)I"⟩
abbrev b_C_countingEdition : ByteArray := prog_1_method_30_code
def y_E_countsFor : MethodName := ⟨"RuleClasses$Edition", "countsFor", "(III)Z"⟩
abbrev b_E_countsFor : ByteArray := prog_2_method_3_code
def y_U_startNothing : MethodName := ⟨"RuleClasses$Run", "startNothing", "()V"⟩
abbrev b_U_startNothing : ByteArray := prog_4_method_2_code
def y_C_place : MethodName := ⟨"RuleClasses", "place", "(II)I"⟩
abbrev b_C_place : ByteArray := prog_1_method_28_code
def y_C_runShadow : MethodName := ⟨"RuleClasses", "runShadow", "(I)V"⟩
abbrev b_C_runShadow : ByteArray := prog_1_method_31_code
def y_U_endedLike : MethodName := ⟨"RuleClasses$Run", "endedLike", "(LRuleClasses$Run;)Z"⟩
abbrev b_U_endedLike : ByteArray := prog_4_method_4_code
def y_E_noteQuestion : MethodName := ⟨"RuleClasses$Edition", "noteQuestion", "(LRuleClasses$Run;)V"⟩
abbrev b_E_noteQuestion : ByteArray := prog_2_method_5_code
def y_L_fallback : MethodName := ⟨"RuleClassesLaw", "fallback", "(LRuleClasses;II)I"⟩
abbrev b_L_fallback : ByteArray := method_9_code
def y_C_fallback : MethodName := ⟨"RuleClasses", "fallback", "(II)V"⟩
abbrev b_C_fallback : ByteArray := prog_1_method_8_code
def y_L_edition : MethodName := ⟨"RuleClassesLaw", "edition", "(LRuleClasses;III[J)I"⟩
abbrev b_L_edition : ByteArray := method_10_code
def y_C_edition : MethodName := ⟨"RuleClasses", "edition", "(III)I"⟩
abbrev b_C_edition : ByteArray := prog_1_method_9_code
def y_L_failed : MethodName := ⟨"RuleClassesLaw", "failed", "(LRuleClasses;II[J)I"⟩
abbrev b_L_failed : ByteArray := method_11_code
def y_C_failed : MethodName := ⟨"RuleClasses", "failed", "(II)I"⟩
abbrev b_C_failed : ByteArray := prog_1_method_10_code
def y_L_handle : MethodName := ⟨"RuleClassesLaw", "handle", "(LRuleClasses;I[J)I"⟩
abbrev b_L_handle : ByteArray := method_12_code
def y_C_handle : MethodName := ⟨"RuleClasses", "handle", "(I)I"⟩
abbrev b_C_handle : ByteArray := prog_1_method_11_code
def y_L_by : MethodName := ⟨"RuleClassesLaw", "by", "(LRuleClasses;I[J)I"⟩
abbrev b_L_by : ByteArray := method_13_code
def y_C_by : MethodName := ⟨"RuleClasses", "by", "(I)I"⟩
abbrev b_C_by : ByteArray := prog_1_method_12_code
def y_L_keep : MethodName := ⟨"RuleClassesLaw", "keep", "(LRuleClasses;[J)I"⟩
abbrev b_L_keep : ByteArray := method_14_code
def y_C_keep : MethodName := ⟨"RuleClasses", "keep", "()I"⟩
abbrev b_C_keep : ByteArray := prog_1_method_13_code
def y_F_copy : MethodName := ⟨"RuleClasses$Facts", "copy", "()LRuleClasses$Facts;"⟩
abbrev b_F_copy : ByteArray := prog_3_method_2_code
def y_L_compare : MethodName := ⟨"RuleClassesLaw", "compare", "(LRuleClasses;II[J)I"⟩
abbrev b_L_compare : ByteArray := method_15_code
def y_C_compare : MethodName := ⟨"RuleClasses", "compare", "(II)I"⟩
abbrev b_C_compare : ByteArray := prog_1_method_14_code
def y_L_same : MethodName := ⟨"RuleClassesLaw", "same", "(LRuleClasses;II[J)I"⟩
abbrev b_L_same : ByteArray := method_16_code
def y_C_same : MethodName := ⟨"RuleClasses", "same", "(II)Z"⟩
abbrev b_C_same : ByteArray := prog_1_method_15_code
def y_E_hasCodeOf : MethodName := ⟨"RuleClasses$Edition", "hasCodeOf", "(LRuleClasses$Edition;)Z"⟩
abbrev b_E_hasCodeOf : ByteArray := prog_2_method_4_code
def y_L_shadow : MethodName := ⟨"RuleClassesLaw", "shadow", "(LRuleClasses;III)I"⟩
abbrev b_L_shadow : ByteArray := method_17_code
def y_C_shadow : MethodName := ⟨"RuleClasses", "shadow", "(III)V"⟩
abbrev b_C_shadow : ByteArray := prog_1_method_16_code
def y_L_otherwise : MethodName := ⟨"RuleClassesLaw", "otherwise", "(LRuleClasses;II[J)I"⟩
abbrev b_L_otherwise : ByteArray := method_18_code
def y_C_otherwise : MethodName := ⟨"RuleClasses", "otherwise", "(II)I"⟩
abbrev b_C_otherwise : ByteArray := prog_1_method_17_code
def y_L_divide : MethodName := ⟨"RuleClassesLaw", "divide", "(LRuleClasses;II[J)I"⟩
abbrev b_L_divide : ByteArray := method_19_code
def y_C_divide : MethodName := ⟨"RuleClasses", "divide", "(II)I"⟩
abbrev b_C_divide : ByteArray := prog_1_method_18_code
def y_L_told : MethodName := ⟨"RuleClassesLaw", "told", "(LRuleClasses;II[J)I"⟩
abbrev b_L_told : ByteArray := method_20_code
def y_C_told : MethodName := ⟨"RuleClasses", "told", "(II)I"⟩
abbrev b_C_told : ByteArray := prog_1_method_19_code
def y_E_tell : MethodName := ⟨"RuleClasses$Edition", "tell", "(I)I"⟩
abbrev b_E_tell : ByteArray := prog_2_method_6_code
def y_M_init : MethodName := ⟨"RuleClassesModel", "<init>", "(I)V"⟩
abbrev b_M_init : ByteArray := prog_6_method_1_code
def y_M_today : MethodName := ⟨"RuleClassesModel", "today", "(I)V"⟩
abbrev b_M_today : ByteArray := prog_6_method_6_code
def y_M_within : MethodName := ⟨"RuleClassesModel", "within", "(III)Z"⟩
abbrev b_M_within : ByteArray := prog_6_method_3_code
def y_M_rule : MethodName := ⟨"RuleClassesModel", "rule", "(III)I"⟩
abbrev b_M_rule : ByteArray := prog_6_method_7_code
def y_M_isPlace : MethodName := ⟨"RuleClassesModel", "isPlace", "(II)Z"⟩
abbrev b_M_isPlace : ByteArray := prog_6_method_5_code
def y_M_op : MethodName := ⟨"RuleClassesModel", "op", "(III)I"⟩
abbrev b_M_op : ByteArray := prog_6_method_9_code
def y_M_isEdition : MethodName := ⟨"RuleClassesModel", "isEdition", "(I)Z"⟩
abbrev b_M_isEdition : ByteArray := prog_6_method_4_code
def y_M_isConstant : MethodName := ⟨"RuleClassesModel", "isConstant", "(II)Z"⟩
abbrev b_M_isConstant : ByteArray := prog_6_method_8_code
def y_M_make : MethodName := ⟨"RuleClassesModel", "make", "(I)I"⟩
abbrev b_M_make : ByteArray := prog_6_method_15_code
def y_M_giveFacts : MethodName := ⟨"RuleClassesModel", "giveFacts", "()V"⟩
abbrev b_M_giveFacts : ByteArray := prog_6_method_14_code
def y_M_run : MethodName := ⟨"RuleClassesModel", "run", "(I)I"⟩
abbrev b_M_run : ByteArray := prog_6_method_13_code
def y_M_step : MethodName := ⟨"RuleClassesModel", "step", "(I)I"⟩
abbrev b_M_step : ByteArray := prog_6_method_12_code
def y_M_takes : MethodName := ⟨"RuleClassesModel", "takes", "(I)I"⟩
abbrev b_M_takes : ByteArray := prog_6_method_10_code
def y_M_valueOf : MethodName := ⟨"RuleClassesModel", "valueOf", "(IIIJJ)J"⟩
abbrev b_M_valueOf : ByteArray := prog_6_method_11_code
def y_M_fact : MethodName := ⟨"RuleClassesModel", "fact", "(II)V"⟩
abbrev b_M_fact : ByteArray := prog_6_method_16_code
def y_M_ask : MethodName := ⟨"RuleClassesModel", "ask", "(II)I"⟩
abbrev b_M_ask : ByteArray := prog_6_method_19_code
def y_M_counts : MethodName := ⟨"RuleClassesModel", "counts", "(III)I"⟩
abbrev b_M_counts : ByteArray := prog_6_method_17_code
def y_M_askedOf : MethodName := ⟨"RuleClassesModel", "askedOf", "(III)I"⟩
abbrev b_M_askedOf : ByteArray := prog_6_method_18_code
def y_M_fallback : MethodName := ⟨"RuleClassesModel", "fallback", "(II)V"⟩
abbrev b_M_fallback : ByteArray := prog_6_method_20_code
def y_M_edition : MethodName := ⟨"RuleClassesModel", "edition", "(III)I"⟩
abbrev b_M_edition : ByteArray := prog_6_method_21_code
def y_M_failed : MethodName := ⟨"RuleClassesModel", "failed", "(II)I"⟩
abbrev b_M_failed : ByteArray := prog_6_method_22_code
def y_M_handle : MethodName := ⟨"RuleClassesModel", "handle", "(I)I"⟩
abbrev b_M_handle : ByteArray := prog_6_method_23_code
def y_M_by : MethodName := ⟨"RuleClassesModel", "by", "(I)I"⟩
abbrev b_M_by : ByteArray := prog_6_method_24_code
def y_M_keep : MethodName := ⟨"RuleClassesModel", "keep", "()I"⟩
abbrev b_M_keep : ByteArray := prog_6_method_25_code
def y_M_compare : MethodName := ⟨"RuleClassesModel", "compare", "(II)I"⟩
abbrev b_M_compare : ByteArray := prog_6_method_26_code
def y_M_same : MethodName := ⟨"RuleClassesModel", "same", "(II)Z"⟩
abbrev b_M_same : ByteArray := prog_6_method_27_code
def y_M_shadow : MethodName := ⟨"RuleClassesModel", "shadow", "(III)V"⟩
abbrev b_M_shadow : ByteArray := prog_6_method_28_code
def y_M_otherwise : MethodName := ⟨"RuleClassesModel", "otherwise", "(II)I"⟩
abbrev b_M_otherwise : ByteArray := prog_6_method_29_code
def y_M_divide : MethodName := ⟨"RuleClassesModel", "divide", "(II)I"⟩
abbrev b_M_divide : ByteArray := prog_6_method_30_code
def y_M_told : MethodName := ⟨"RuleClassesModel", "told", "(II)I"⟩
abbrev b_M_told : ByteArray := prog_6_method_31_code
def y_M_count : MethodName := ⟨"RuleClassesModel", "count", "(I)I"⟩
abbrev b_M_count : ByteArray := prog_6_method_32_code
theorem m_0 : (Jvm.Cond.initialized "RuleClassesLaw") ∈ TBL := mT (List.mem_append_left _ (List.mem_of_getElem? (i := 0) rfl)) (by decide +kernel)
theorem m_1 : (Jvm.Cond.initialized "RuleClasses") ∈ TBL := mT (List.mem_append_left _ (List.mem_of_getElem? (i := 1) rfl)) (by decide +kernel)
theorem m_2 : (Jvm.Cond.initialized "java/util/AbstractCollection") ∈ TBL := mT (List.mem_append_left _ (List.mem_of_getElem? (i := 2) rfl)) (by decide +kernel)
theorem m_3 : (Jvm.Cond.initialized "java/util/AbstractList") ∈ TBL := mT (List.mem_append_left _ (List.mem_of_getElem? (i := 3) rfl)) (by decide +kernel)
theorem m_4 : (Jvm.Cond.initialized "java/util/ArrayList") ∈ TBL := mT (List.mem_append_left _ (List.mem_of_getElem? (i := 4) rfl)) (by decide +kernel)
theorem m_5 : (Jvm.Cond.initialized "RuleClasses$Facts") ∈ TBL := mT (List.mem_append_left _ (List.mem_of_getElem? (i := 5) rfl)) (by decide +kernel)
theorem m_6 : (Jvm.Cond.initialized "java/lang/Math") ∈ TBL := mT (List.mem_append_left _ (List.mem_of_getElem? (i := 6) rfl)) (by decide +kernel)
theorem m_7 : (Jvm.Cond.initialized "RuleClasses$Run") ∈ TBL := mT (List.mem_append_left _ (List.mem_of_getElem? (i := 7) rfl)) (by decide +kernel)
theorem m_8 : (Jvm.Cond.initialized "RuleClassesModel") ∈ TBL := mT (List.mem_append_left _ (List.mem_of_getElem? (i := 8) rfl)) (by decide +kernel)
theorem m_9 : (Jvm.Cond.initialized "java/lang/Throwable") ∈ TBL := mT (List.mem_append_left _ (List.mem_of_getElem? (i := 9) rfl)) (by decide +kernel)
theorem m_12 : (Jvm.Cond.initialized "java/lang/IllegalArgumentException") ∈ TBL := mT (List.mem_append_left _ (List.mem_of_getElem? (i := 12) rfl)) (by decide +kernel)
theorem m_13 : (Jvm.Cond.initialized "java/lang/UnsupportedOperationException") ∈ TBL := mT (List.mem_append_left _ (List.mem_of_getElem? (i := 13) rfl)) (by decide +kernel)
theorem m_14 : (Jvm.Cond.initialized "RuleClasses$Edition") ∈ TBL := mT (List.mem_append_left _ (List.mem_of_getElem? (i := 14) rfl)) (by decide +kernel)
theorem m_15 : (Jvm.Cond.initialized "jdk/internal/util/ArraysSupport") ∈ TBL := mT (List.mem_append_left _ (List.mem_of_getElem? (i := 15) rfl)) (by decide +kernel)
theorem m_16 : (Jvm.Cond.initialized "java/util/Arrays") ∈ TBL := mT (List.mem_append_left _ (List.mem_of_getElem? (i := 16) rfl)) (by decide +kernel)
theorem m_17 : (Jvm.Cond.initialized "java/lang/System") ∈ TBL := mT (List.mem_append_left _ (List.mem_of_getElem? (i := 17) rfl)) (by decide +kernel)
theorem m_18 : (Jvm.Cond.initialized "java/util/NoSuchElementException") ∈ TBL := mT (List.mem_append_left _ (List.mem_of_getElem? (i := 18) rfl)) (by decide +kernel)
theorem m_19 : (Jvm.Cond.initialized "java/util/Objects") ∈ TBL := mT (List.mem_append_left _ (List.mem_of_getElem? (i := 19) rfl)) (by decide +kernel)
theorem m_20 : (Jvm.Cond.initialized "jdk/internal/util/Preconditions") ∈ TBL := mT (List.mem_append_left _ (List.mem_of_getElem? (i := 20) rfl)) (by decide +kernel)
theorem m_21 : (Jvm.Cond.initialized "java/lang/IllegalStateException") ∈ TBL := mT (List.mem_append_left _ (List.mem_of_getElem? (i := 21) rfl)) (by decide +kernel)
theorem m_22 : (Jvm.Cond.initialized "java/lang/ArithmeticException") ∈ TBL := mT (List.mem_append_left _ (List.mem_of_getElem? (i := 22) rfl)) (by decide +kernel)
theorem m_23 : (Jvm.Cond.classLink "RuleClassesLaw" (8 : Nat) "RuleClasses") ∈ TBL := mT (List.mem_append_left _ (List.mem_of_getElem? (i := 23) rfl)) (by decide +kernel)
theorem m_24 : (Jvm.Cond.instantiable "RuleClasses" (15 : Nat)) ∈ TBL := mT (List.mem_append_left _ (List.mem_of_getElem? (i := 24) rfl)) (by decide +kernel)
theorem m_25 : (Jvm.Cond.methodLink "RuleClassesLaw" (87 : Nat) ({ cls := "RuleClasses", name := "<init>", desc := "(I)V" } : Jvm.MethodName)) ∈ TBL := mT (List.mem_append_left _ (List.mem_of_getElem? (i := 25) rfl)) (by decide +kernel)
theorem m_26 : (Jvm.Cond.instanceMethod ({ cls := "RuleClasses", name := "<init>", desc := "(I)V" } : Jvm.MethodName)) ∈ TBL := mT (List.mem_append_left _ (List.mem_of_getElem? (i := 26) rfl)) (by decide +kernel)
theorem m_27 : (Jvm.Cond.code ({ cls := "RuleClasses", name := "<init>", desc := "(I)V" } : Jvm.MethodName) prog_1_method_1_code (3 : Nat) (Option.none : Option Jvm.ClassFile.FieldType)) ∈ TBL := mT (List.mem_append_left _ (List.mem_of_getElem? (i := 27) rfl)) (by decide +kernel)
theorem m_28 : (Jvm.Cond.methodLink "RuleClasses" (1 : Nat) ({ cls := "java/lang/Object", name := "<init>", desc := "()V" } : Jvm.MethodName)) ∈ TBL := mT (List.mem_append_left _ (List.mem_of_getElem? (i := 28) rfl)) (by decide +kernel)
theorem m_29 : (Jvm.Cond.instanceMethod ({ cls := "java/lang/Object", name := "<init>", desc := "()V" } : Jvm.MethodName)) ∈ TBL := mT (List.mem_append_left _ (List.mem_of_getElem? (i := 29) rfl)) (by decide +kernel)
theorem m_30 : (Jvm.Cond.code ({ cls := "java/lang/Object", name := "<init>", desc := "()V" } : Jvm.MethodName) object_method_1_code (1 : Nat) (Option.none : Option Jvm.ClassFile.FieldType)) ∈ TBL := mT (List.mem_append_left _ (List.mem_of_getElem? (i := 30) rfl)) (by decide +kernel)
theorem m_31 : (Jvm.Cond.classLink "RuleClasses" (7 : Nat) "java/util/ArrayList") ∈ TBL := mT (List.mem_append_left _ (List.mem_of_getElem? (i := 31) rfl)) (by decide +kernel)
theorem m_32 : (Jvm.Cond.instantiable "java/util/ArrayList" (3 : Nat)) ∈ TBL := mT (List.mem_append_left _ (List.mem_of_getElem? (i := 32) rfl)) (by decide +kernel)
theorem m_33 : (Jvm.Cond.methodLink "RuleClasses" (9 : Nat) ({ cls := "java/util/ArrayList", name := "<init>", desc := "()V" } : Jvm.MethodName)) ∈ TBL := mT (List.mem_append_left _ (List.mem_of_getElem? (i := 33) rfl)) (by decide +kernel)
theorem m_34 : (Jvm.Cond.instanceMethod ({ cls := "java/util/ArrayList", name := "<init>", desc := "()V" } : Jvm.MethodName)) ∈ TBL := mT (List.mem_append_left _ (List.mem_of_getElem? (i := 34) rfl)) (by decide +kernel)
theorem m_35 : (Jvm.Cond.code ({ cls := "java/util/ArrayList", name := "<init>", desc := "()V" } : Jvm.MethodName) prog_22_method_2_code (1 : Nat) (Option.none : Option Jvm.ClassFile.FieldType)) ∈ TBL := mT (List.mem_append_left _ (List.mem_of_getElem? (i := 35) rfl)) (by decide +kernel)
theorem m_36 : (Jvm.Cond.methodLink "java/util/ArrayList" (1 : Nat) ({ cls := "java/util/AbstractList", name := "<init>", desc := "()V" } : Jvm.MethodName)) ∈ TBL := mT (List.mem_append_left _ (List.mem_of_getElem? (i := 36) rfl)) (by decide +kernel)
theorem m_37 : (Jvm.Cond.instanceMethod ({ cls := "java/util/AbstractList", name := "<init>", desc := "()V" } : Jvm.MethodName)) ∈ TBL := mT (List.mem_append_left _ (List.mem_of_getElem? (i := 37) rfl)) (by decide +kernel)
theorem m_38 : (Jvm.Cond.code ({ cls := "java/util/AbstractList", name := "<init>", desc := "()V" } : Jvm.MethodName) prog_21_method_1_code (1 : Nat) (Option.none : Option Jvm.ClassFile.FieldType)) ∈ TBL := mT (List.mem_append_left _ (List.mem_of_getElem? (i := 38) rfl)) (by decide +kernel)
theorem m_39 : (Jvm.Cond.methodLink "java/util/AbstractList" (1 : Nat) ({ cls := "java/util/AbstractCollection", name := "<init>", desc := "()V" } : Jvm.MethodName)) ∈ TBL := mT (List.mem_append_left _ (List.mem_of_getElem? (i := 39) rfl)) (by decide +kernel)
theorem m_40 : (Jvm.Cond.instanceMethod ({ cls := "java/util/AbstractCollection", name := "<init>", desc := "()V" } : Jvm.MethodName)) ∈ TBL := mT (List.mem_append_left _ (List.mem_of_getElem? (i := 40) rfl)) (by decide +kernel)
theorem m_41 : (Jvm.Cond.code ({ cls := "java/util/AbstractCollection", name := "<init>", desc := "()V" } : Jvm.MethodName) prog_20_method_1_code (1 : Nat) (Option.none : Option Jvm.ClassFile.FieldType)) ∈ TBL := mT (List.mem_append_left _ (List.mem_of_getElem? (i := 41) rfl)) (by decide +kernel)
theorem m_42 : (Jvm.Cond.methodLink "java/util/AbstractCollection" (1 : Nat) ({ cls := "java/lang/Object", name := "<init>", desc := "()V" } : Jvm.MethodName)) ∈ TBL := mT (List.mem_append_left _ (List.mem_of_getElem? (i := 42) rfl)) (by decide +kernel)
theorem m_43 : (Jvm.Cond.fieldLink "java/util/ArrayList" (39 : Nat) "java/util/ArrayList" "DEFAULTCAPACITY_EMPTY_ELEMENTDATA" "[Ljava/lang/Object;") ∈ TBL := mT (List.mem_append_left _ (List.mem_of_getElem? (i := 43) rfl)) (by decide +kernel)
theorem m_45 : (Jvm.Cond.fieldLink "java/util/ArrayList" (9 : Nat) "java/util/ArrayList" "elementData" "[Ljava/lang/Object;") ∈ TBL := mT (List.mem_append_left _ (List.mem_of_getElem? (i := 45) rfl)) (by decide +kernel)
theorem m_46 : (Jvm.Cond.fieldLink "java/util/ArrayList" (48 : Nat) "java/util/ArrayList" "size" "I") ∈ TBL := mT (List.mem_append_left _ (List.mem_of_getElem? (i := 46) rfl)) (by decide +kernel)
theorem m_47 : (Jvm.Cond.fieldLink "java/util/AbstractList" (7 : Nat) "java/util/AbstractList" "modCount" "I") ∈ TBL := mT (List.mem_append_left _ (List.mem_of_getElem? (i := 47) rfl)) (by decide +kernel)
theorem m_48 : (Jvm.Cond.fieldLink "java/util/ArrayList" (63 : Nat) "java/util/ArrayList" "modCount" "I") ∈ TBL := mT (List.mem_append_left _ (List.mem_of_getElem? (i := 48) rfl)) (by decide +kernel)
theorem m_49 : (Jvm.Cond.sameField "java/util/ArrayList" "java/util/AbstractList" "modCount" "I") ∈ TBL := mT (List.mem_append_left _ (List.mem_of_getElem? (i := 49) rfl)) (by decide +kernel)
theorem m_50 : (Jvm.Cond.lays "java/util/ArrayList" "java/util/ArrayList" "elementData" "[Ljava/lang/Object;") ∈ TBL := mT (List.mem_append_left _ (List.mem_of_getElem? (i := 50) rfl)) (by decide +kernel)
theorem m_52 : (Jvm.Cond.lays "java/util/ArrayList" "java/util/ArrayList" "size" "I") ∈ TBL := mT (List.mem_append_left _ (List.mem_of_getElem? (i := 52) rfl)) (by decide +kernel)
theorem m_54 : (Jvm.Cond.lays "java/util/ArrayList" "java/util/AbstractList" "modCount" "I") ∈ TBL := mT (List.mem_append_left _ (List.mem_of_getElem? (i := 54) rfl)) (by decide +kernel)
theorem m_57 : (Jvm.Cond.classLink "RuleClasses" (19 : Nat) "RuleClasses$Facts") ∈ TBL := mT (List.mem_append_left _ (List.mem_of_getElem? (i := 57) rfl)) (by decide +kernel)
theorem m_58 : (Jvm.Cond.instantiable "RuleClasses$Facts" (1 : Nat)) ∈ TBL := mT (List.mem_append_left _ (List.mem_of_getElem? (i := 58) rfl)) (by decide +kernel)
theorem m_60 : (Jvm.Cond.instanceMethod ({ cls := "RuleClasses$Facts", name := "<init>", desc := "()V" } : Jvm.MethodName)) ∈ TBL := mT (List.mem_append_left _ (List.mem_of_getElem? (i := 60) rfl)) (by decide +kernel)
theorem m_61 : (Jvm.Cond.code ({ cls := "RuleClasses$Facts", name := "<init>", desc := "()V" } : Jvm.MethodName) prog_3_method_1_code (1 : Nat) (Option.none : Option Jvm.ClassFile.FieldType)) ∈ TBL := mT (List.mem_append_left _ (List.mem_of_getElem? (i := 61) rfl)) (by decide +kernel)
theorem m_62 : (Jvm.Cond.methodLink "RuleClasses$Facts" (3 : Nat) ({ cls := "java/lang/Object", name := "<init>", desc := "()V" } : Jvm.MethodName)) ∈ TBL := mT (List.mem_append_left _ (List.mem_of_getElem? (i := 62) rfl)) (by decide +kernel)
theorem m_63 : (Jvm.Cond.fieldLink "RuleClasses$Facts" (9 : Nat) "RuleClasses$Facts" "values" "[I") ∈ TBL := mT (List.mem_append_left _ (List.mem_of_getElem? (i := 63) rfl)) (by decide +kernel)
theorem m_64 : (Jvm.Cond.fieldLink "RuleClasses" (131 : Nat) "RuleClasses$Facts" "values" "[I") ∈ TBL := mT (List.mem_append_left _ (List.mem_of_getElem? (i := 64) rfl)) (by decide +kernel)
theorem m_65 : (Jvm.Cond.fieldLink "RuleClasses$Run" (64 : Nat) "RuleClasses$Facts" "values" "[I") ∈ TBL := mT (List.mem_append_left _ (List.mem_of_getElem? (i := 65) rfl)) (by decide +kernel)
theorem m_66 : (Jvm.Cond.laysFinal "RuleClasses$Facts" "RuleClasses$Facts" "values" "[I") ∈ TBL := mT (List.mem_append_left _ (List.mem_of_getElem? (i := 66) rfl)) (by decide +kernel)
theorem m_69 : (Jvm.Cond.arrayClass Jvm.ClassFile.FieldType.int) ∈ TBL := mT (List.mem_append_left _ (List.mem_of_getElem? (i := 69) rfl)) (by decide +kernel)
theorem m_70 : (Jvm.Cond.methodLink "RuleClasses" (39 : Nat) ({ cls := "java/lang/Math", name := "min", desc := "(II)I" } : Jvm.MethodName)) ∈ TBL := mT (List.mem_append_left _ (List.mem_of_getElem? (i := 70) rfl)) (by decide +kernel)
theorem m_71 : (Jvm.Cond.static ({ cls := "java/lang/Math", name := "min", desc := "(II)I" } : Jvm.MethodName)) ∈ TBL := mT (List.mem_append_left _ (List.mem_of_getElem? (i := 71) rfl)) (by decide +kernel)
theorem m_72 : (Jvm.Cond.code ({ cls := "java/lang/Math", name := "min", desc := "(II)I" } : Jvm.MethodName) prog_14_method_69_code (2 : Nat) (Option.some Jvm.ClassFile.FieldType.int)) ∈ TBL := mT (List.mem_append_left _ (List.mem_of_getElem? (i := 72) rfl)) (by decide +kernel)
theorem m_73 : (Jvm.Cond.methodLink "RuleClasses" (45 : Nat) ({ cls := "java/lang/Math", name := "max", desc := "(II)I" } : Jvm.MethodName)) ∈ TBL := mT (List.mem_append_left _ (List.mem_of_getElem? (i := 73) rfl)) (by decide +kernel)
theorem m_74 : (Jvm.Cond.static ({ cls := "java/lang/Math", name := "max", desc := "(II)I" } : Jvm.MethodName)) ∈ TBL := mT (List.mem_append_left _ (List.mem_of_getElem? (i := 74) rfl)) (by decide +kernel)
theorem m_75 : (Jvm.Cond.code ({ cls := "java/lang/Math", name := "max", desc := "(II)I" } : Jvm.MethodName) prog_14_method_65_code (2 : Nat) (Option.some Jvm.ClassFile.FieldType.int)) ∈ TBL := mT (List.mem_append_left _ (List.mem_of_getElem? (i := 75) rfl)) (by decide +kernel)
theorem m_76 : (Jvm.Cond.classLink "RuleClasses" (52 : Nat) "RuleClasses$Run") ∈ TBL := mT (List.mem_append_left _ (List.mem_of_getElem? (i := 76) rfl)) (by decide +kernel)
theorem m_77 : (Jvm.Cond.instantiable "RuleClasses$Run" (7 : Nat)) ∈ TBL := mT (List.mem_append_left _ (List.mem_of_getElem? (i := 77) rfl)) (by decide +kernel)
theorem m_78 : (Jvm.Cond.methodLink "RuleClasses" (54 : Nat) ({ cls := "RuleClasses$Run", name := "<init>", desc := "(I)V" } : Jvm.MethodName)) ∈ TBL := mT (List.mem_append_left _ (List.mem_of_getElem? (i := 78) rfl)) (by decide +kernel)
theorem m_79 : (Jvm.Cond.instanceMethod ({ cls := "RuleClasses$Run", name := "<init>", desc := "(I)V" } : Jvm.MethodName)) ∈ TBL := mT (List.mem_append_left _ (List.mem_of_getElem? (i := 79) rfl)) (by decide +kernel)
theorem m_80 : (Jvm.Cond.code ({ cls := "RuleClasses$Run", name := "<init>", desc := "(I)V" } : Jvm.MethodName) prog_4_method_1_code (2 : Nat) (Option.none : Option Jvm.ClassFile.FieldType)) ∈ TBL := mT (List.mem_append_left _ (List.mem_of_getElem? (i := 80) rfl)) (by decide +kernel)
theorem m_81 : (Jvm.Cond.methodLink "RuleClasses$Run" (3 : Nat) ({ cls := "java/lang/Object", name := "<init>", desc := "()V" } : Jvm.MethodName)) ∈ TBL := mT (List.mem_append_left _ (List.mem_of_getElem? (i := 81) rfl)) (by decide +kernel)
theorem m_82 : (Jvm.Cond.fieldLink "RuleClasses$Run" (15 : Nat) "RuleClasses$Run" "most" "I") ∈ TBL := mT (List.mem_append_left _ (List.mem_of_getElem? (i := 82) rfl)) (by decide +kernel)
theorem m_83 : (Jvm.Cond.fieldLink "RuleClasses$Run" (9 : Nat) "RuleClasses$Run" "stack" "[I") ∈ TBL := mT (List.mem_append_left _ (List.mem_of_getElem? (i := 83) rfl)) (by decide +kernel)
theorem m_84 : (Jvm.Cond.fieldLink "RuleClasses$Run" (32 : Nat) "RuleClasses$Run" "height" "I") ∈ TBL := mT (List.mem_append_left _ (List.mem_of_getElem? (i := 84) rfl)) (by decide +kernel)
theorem m_85 : (Jvm.Cond.fieldLink "RuleClasses$Run" (35 : Nat) "RuleClasses$Run" "next" "I") ∈ TBL := mT (List.mem_append_left _ (List.mem_of_getElem? (i := 85) rfl)) (by decide +kernel)
theorem m_86 : (Jvm.Cond.fieldLink "RuleClasses$Run" (22 : Nat) "RuleClasses$Run" "outcome" "I") ∈ TBL := mT (List.mem_append_left _ (List.mem_of_getElem? (i := 86) rfl)) (by decide +kernel)
theorem m_87 : (Jvm.Cond.fieldLink "RuleClasses$Edition" (46 : Nat) "RuleClasses$Run" "outcome" "I") ∈ TBL := mT (List.mem_append_left _ (List.mem_of_getElem? (i := 87) rfl)) (by decide +kernel)
theorem m_88 : (Jvm.Cond.fieldLink "RuleClasses" (124 : Nat) "RuleClasses$Run" "outcome" "I") ∈ TBL := mT (List.mem_append_left _ (List.mem_of_getElem? (i := 88) rfl)) (by decide +kernel)
theorem m_89 : (Jvm.Cond.fieldLink "RuleClasses$Run" (29 : Nat) "RuleClasses$Run" "answer" "I") ∈ TBL := mT (List.mem_append_left _ (List.mem_of_getElem? (i := 89) rfl)) (by decide +kernel)
theorem m_90 : (Jvm.Cond.fieldLink "RuleClasses" (158 : Nat) "RuleClasses$Run" "answer" "I") ∈ TBL := mT (List.mem_append_left _ (List.mem_of_getElem? (i := 90) rfl)) (by decide +kernel)
theorem m_91 : (Jvm.Cond.fieldLink "RuleClasses$Run" (38 : Nat) "RuleClasses$Run" "steps" "I") ∈ TBL := mT (List.mem_append_left _ (List.mem_of_getElem? (i := 91) rfl)) (by decide +kernel)
theorem m_92 : (Jvm.Cond.fieldLink "RuleClasses$Edition" (41 : Nat) "RuleClasses$Run" "steps" "I") ∈ TBL := mT (List.mem_append_left _ (List.mem_of_getElem? (i := 92) rfl)) (by decide +kernel)
theorem m_93 : (Jvm.Cond.laysFinal "RuleClasses$Run" "RuleClasses$Run" "most" "I") ∈ TBL := mT (List.mem_append_left _ (List.mem_of_getElem? (i := 93) rfl)) (by decide +kernel)
theorem m_95 : (Jvm.Cond.laysFinal "RuleClasses$Run" "RuleClasses$Run" "stack" "[I") ∈ TBL := mT (List.mem_append_left _ (List.mem_of_getElem? (i := 95) rfl)) (by decide +kernel)
theorem m_97 : (Jvm.Cond.lays "RuleClasses$Run" "RuleClasses$Run" "height" "I") ∈ TBL := mT (List.mem_append_left _ (List.mem_of_getElem? (i := 97) rfl)) (by decide +kernel)
theorem m_99 : (Jvm.Cond.lays "RuleClasses$Run" "RuleClasses$Run" "next" "I") ∈ TBL := mT (List.mem_append_left _ (List.mem_of_getElem? (i := 99) rfl)) (by decide +kernel)
theorem m_101 : (Jvm.Cond.lays "RuleClasses$Run" "RuleClasses$Run" "outcome" "I") ∈ TBL := mT (List.mem_append_left _ (List.mem_of_getElem? (i := 101) rfl)) (by decide +kernel)
theorem m_103 : (Jvm.Cond.lays "RuleClasses$Run" "RuleClasses$Run" "answer" "I") ∈ TBL := mT (List.mem_append_left _ (List.mem_of_getElem? (i := 103) rfl)) (by decide +kernel)
theorem m_105 : (Jvm.Cond.lays "RuleClasses$Run" "RuleClasses$Run" "steps" "I") ∈ TBL := mT (List.mem_append_left _ (List.mem_of_getElem? (i := 105) rfl)) (by decide +kernel)
theorem m_108 : (Jvm.Cond.fieldLink "RuleClasses" (48 : Nat) "RuleClasses" "most" "I") ∈ TBL := mT (List.mem_append_left _ (List.mem_of_getElem? (i := 108) rfl)) (by decide +kernel)
theorem m_109 : (Jvm.Cond.fieldLink "RuleClasses" (10 : Nat) "RuleClasses" "editions" "Ljava/util/ArrayList;") ∈ TBL := mT (List.mem_append_left _ (List.mem_of_getElem? (i := 109) rfl)) (by decide +kernel)
theorem m_110 : (Jvm.Cond.fieldLink "RuleClasses" (16 : Nat) "RuleClasses" "kept" "Ljava/util/ArrayList;") ∈ TBL := mT (List.mem_append_left _ (List.mem_of_getElem? (i := 110) rfl)) (by decide +kernel)
theorem m_111 : (Jvm.Cond.fieldLink "RuleClasses" (22 : Nat) "RuleClasses" "facts" "LRuleClasses$Facts;") ∈ TBL := mT (List.mem_append_left _ (List.mem_of_getElem? (i := 111) rfl)) (by decide +kernel)
theorem m_112 : (Jvm.Cond.fieldLink "RuleClasses" (57 : Nat) "RuleClasses" "run" "LRuleClasses$Run;") ∈ TBL := mT (List.mem_append_left _ (List.mem_of_getElem? (i := 112) rfl)) (by decide +kernel)
theorem m_113 : (Jvm.Cond.fieldLink "RuleClasses" (61 : Nat) "RuleClasses" "runBeside" "LRuleClasses$Run;") ∈ TBL := mT (List.mem_append_left _ (List.mem_of_getElem? (i := 113) rfl)) (by decide +kernel)
theorem m_114 : (Jvm.Cond.fieldLink "RuleClasses" (26 : Nat) "RuleClasses" "fallbacks" "[I") ∈ TBL := mT (List.mem_append_left _ (List.mem_of_getElem? (i := 114) rfl)) (by decide +kernel)
theorem m_115 : (Jvm.Cond.fieldLink "RuleClasses" (30 : Nat) "RuleClasses" "failures" "[I") ∈ TBL := mT (List.mem_append_left _ (List.mem_of_getElem? (i := 115) rfl)) (by decide +kernel)
theorem m_116 : (Jvm.Cond.fieldLink "RuleClasses" (33 : Nat) "RuleClasses" "shadows" "[I") ∈ TBL := mT (List.mem_append_left _ (List.mem_of_getElem? (i := 116) rfl)) (by decide +kernel)
theorem m_117 : (Jvm.Cond.fieldLink "RuleClasses" (36 : Nat) "RuleClasses" "differences" "[I") ∈ TBL := mT (List.mem_append_left _ (List.mem_of_getElem? (i := 117) rfl)) (by decide +kernel)
theorem m_118 : (Jvm.Cond.fieldLink "RuleClasses" (64 : Nat) "RuleClasses" "day" "I") ∈ TBL := mT (List.mem_append_left _ (List.mem_of_getElem? (i := 118) rfl)) (by decide +kernel)
theorem m_119 : (Jvm.Cond.fieldLink "RuleClasses" (134 : Nat) "RuleClasses" "questions" "I") ∈ TBL := mT (List.mem_append_left _ (List.mem_of_getElem? (i := 119) rfl)) (by decide +kernel)
theorem m_120 : (Jvm.Cond.fieldLink "RuleClasses" (166 : Nat) "RuleClasses" "handles" "I") ∈ TBL := mT (List.mem_append_left _ (List.mem_of_getElem? (i := 120) rfl)) (by decide +kernel)
theorem m_121 : (Jvm.Cond.fieldLink "RuleClasses" (171 : Nat) "RuleClasses" "livingHandle" "I") ∈ TBL := mT (List.mem_append_left _ (List.mem_of_getElem? (i := 121) rfl)) (by decide +kernel)
theorem m_122 : (Jvm.Cond.fieldLink "RuleClasses" (174 : Nat) "RuleClasses" "handledEdition" "I") ∈ TBL := mT (List.mem_append_left _ (List.mem_of_getElem? (i := 122) rfl)) (by decide +kernel)
theorem m_123 : (Jvm.Cond.laysFinal "RuleClasses" "RuleClasses" "most" "I") ∈ TBL := mT (List.mem_append_left _ (List.mem_of_getElem? (i := 123) rfl)) (by decide +kernel)
theorem m_125 : (Jvm.Cond.laysFinal "RuleClasses" "RuleClasses" "editions" "Ljava/util/ArrayList;") ∈ TBL := mT (List.mem_append_left _ (List.mem_of_getElem? (i := 125) rfl)) (by decide +kernel)
theorem m_127 : (Jvm.Cond.laysFinal "RuleClasses" "RuleClasses" "kept" "Ljava/util/ArrayList;") ∈ TBL := mT (List.mem_append_left _ (List.mem_of_getElem? (i := 127) rfl)) (by decide +kernel)
theorem m_129 : (Jvm.Cond.laysFinal "RuleClasses" "RuleClasses" "facts" "LRuleClasses$Facts;") ∈ TBL := mT (List.mem_append_left _ (List.mem_of_getElem? (i := 129) rfl)) (by decide +kernel)
theorem m_131 : (Jvm.Cond.laysFinal "RuleClasses" "RuleClasses" "run" "LRuleClasses$Run;") ∈ TBL := mT (List.mem_append_left _ (List.mem_of_getElem? (i := 131) rfl)) (by decide +kernel)
theorem m_133 : (Jvm.Cond.laysFinal "RuleClasses" "RuleClasses" "runBeside" "LRuleClasses$Run;") ∈ TBL := mT (List.mem_append_left _ (List.mem_of_getElem? (i := 133) rfl)) (by decide +kernel)
theorem m_135 : (Jvm.Cond.laysFinal "RuleClasses" "RuleClasses" "fallbacks" "[I") ∈ TBL := mT (List.mem_append_left _ (List.mem_of_getElem? (i := 135) rfl)) (by decide +kernel)
theorem m_137 : (Jvm.Cond.laysFinal "RuleClasses" "RuleClasses" "failures" "[I") ∈ TBL := mT (List.mem_append_left _ (List.mem_of_getElem? (i := 137) rfl)) (by decide +kernel)
theorem m_139 : (Jvm.Cond.laysFinal "RuleClasses" "RuleClasses" "shadows" "[I") ∈ TBL := mT (List.mem_append_left _ (List.mem_of_getElem? (i := 139) rfl)) (by decide +kernel)
theorem m_141 : (Jvm.Cond.laysFinal "RuleClasses" "RuleClasses" "differences" "[I") ∈ TBL := mT (List.mem_append_left _ (List.mem_of_getElem? (i := 141) rfl)) (by decide +kernel)
theorem m_143 : (Jvm.Cond.lays "RuleClasses" "RuleClasses" "day" "I") ∈ TBL := mT (List.mem_append_left _ (List.mem_of_getElem? (i := 143) rfl)) (by decide +kernel)
theorem m_145 : (Jvm.Cond.lays "RuleClasses" "RuleClasses" "questions" "I") ∈ TBL := mT (List.mem_append_left _ (List.mem_of_getElem? (i := 145) rfl)) (by decide +kernel)
theorem m_147 : (Jvm.Cond.lays "RuleClasses" "RuleClasses" "handles" "I") ∈ TBL := mT (List.mem_append_left _ (List.mem_of_getElem? (i := 147) rfl)) (by decide +kernel)
theorem m_149 : (Jvm.Cond.lays "RuleClasses" "RuleClasses" "livingHandle" "I") ∈ TBL := mT (List.mem_append_left _ (List.mem_of_getElem? (i := 149) rfl)) (by decide +kernel)
theorem m_151 : (Jvm.Cond.lays "RuleClasses" "RuleClasses" "handledEdition" "I") ∈ TBL := mT (List.mem_append_left _ (List.mem_of_getElem? (i := 151) rfl)) (by decide +kernel)
theorem m_154 : (Jvm.Cond.methodLink "RuleClassesLaw" (153 : Nat) ({ cls := "RuleClasses", name := "count", desc := "(I)I" } : Jvm.MethodName)) ∈ TBL := mT (List.mem_append_left _ (List.mem_of_getElem? (i := 154) rfl)) (by decide +kernel)
theorem m_155 : (Jvm.Cond.instanceMethod ({ cls := "RuleClasses", name := "count", desc := "(I)I" } : Jvm.MethodName)) ∈ TBL := mT (List.mem_append_left _ (List.mem_of_getElem? (i := 155) rfl)) (by decide +kernel)
theorem m_156 : (Jvm.Cond.selects "RuleClasses" ({ cls := "RuleClasses", name := "count", desc := "(I)I" } : Jvm.MethodName) ({ cls := "RuleClasses", name := "count", desc := "(I)I" } : Jvm.MethodName)) ∈ TBL := mT (List.mem_append_left _ (List.mem_of_getElem? (i := 156) rfl)) (by decide +kernel)
theorem m_157 : (Jvm.Cond.code ({ cls := "RuleClasses", name := "count", desc := "(I)I" } : Jvm.MethodName) prog_1_method_20_code (2 : Nat) (Option.some Jvm.ClassFile.FieldType.int)) ∈ TBL := mT (List.mem_append_left _ (List.mem_of_getElem? (i := 157) rfl)) (by decide +kernel)
theorem m_158 : (Jvm.Cond.methodLink "RuleClasses" (78 : Nat) ({ cls := "java/util/ArrayList", name := "size", desc := "()I" } : Jvm.MethodName)) ∈ TBL := mT (List.mem_append_left _ (List.mem_of_getElem? (i := 158) rfl)) (by decide +kernel)
theorem m_159 : (Jvm.Cond.instanceMethod ({ cls := "java/util/ArrayList", name := "size", desc := "()I" } : Jvm.MethodName)) ∈ TBL := mT (List.mem_append_left _ (List.mem_of_getElem? (i := 159) rfl)) (by decide +kernel)
theorem m_160 : (Jvm.Cond.selects "java/util/ArrayList" ({ cls := "java/util/ArrayList", name := "size", desc := "()I" } : Jvm.MethodName) ({ cls := "java/util/ArrayList", name := "size", desc := "()I" } : Jvm.MethodName)) ∈ TBL := mT (List.mem_append_left _ (List.mem_of_getElem? (i := 160) rfl)) (by decide +kernel)
theorem m_161 : (Jvm.Cond.code ({ cls := "java/util/ArrayList", name := "size", desc := "()I" } : Jvm.MethodName) prog_22_method_8_code (1 : Nat) (Option.some Jvm.ClassFile.FieldType.int)) ∈ TBL := mT (List.mem_append_left _ (List.mem_of_getElem? (i := 161) rfl)) (by decide +kernel)
theorem m_162 : (Jvm.Cond.methodLink "RuleClasses" (207 : Nat) ({ cls := "RuleClasses", name := "madeEditions", desc := "()I" } : Jvm.MethodName)) ∈ TBL := mT (List.mem_append_left _ (List.mem_of_getElem? (i := 162) rfl)) (by decide +kernel)
theorem m_164 : (Jvm.Cond.instanceMethod ({ cls := "RuleClasses", name := "madeEditions", desc := "()I" } : Jvm.MethodName)) ∈ TBL := mT (List.mem_append_left _ (List.mem_of_getElem? (i := 164) rfl)) (by decide +kernel)
theorem m_165 : (Jvm.Cond.code ({ cls := "RuleClasses", name := "madeEditions", desc := "()I" } : Jvm.MethodName) prog_1_method_32_code (3 : Nat) (Option.some Jvm.ClassFile.FieldType.int)) ∈ TBL := mT (List.mem_append_left _ (List.mem_of_getElem? (i := 165) rfl)) (by decide +kernel)
theorem m_166 : (Jvm.Cond.methodLink "RuleClasses" (144 : Nat) ({ cls := "java/util/ArrayList", name := "get", desc := "(I)Ljava/lang/Object;" } : Jvm.MethodName)) ∈ TBL := mT (List.mem_append_left _ (List.mem_of_getElem? (i := 166) rfl)) (by decide +kernel)
theorem m_167 : (Jvm.Cond.instanceMethod ({ cls := "java/util/ArrayList", name := "get", desc := "(I)Ljava/lang/Object;" } : Jvm.MethodName)) ∈ TBL := mT (List.mem_append_left _ (List.mem_of_getElem? (i := 167) rfl)) (by decide +kernel)
theorem m_168 : (Jvm.Cond.selects "java/util/ArrayList" ({ cls := "java/util/ArrayList", name := "get", desc := "(I)Ljava/lang/Object;" } : Jvm.MethodName) ({ cls := "java/util/ArrayList", name := "get", desc := "(I)Ljava/lang/Object;" } : Jvm.MethodName)) ∈ TBL := mT (List.mem_append_left _ (List.mem_of_getElem? (i := 168) rfl)) (by decide +kernel)
theorem m_169 : (Jvm.Cond.code ({ cls := "java/util/ArrayList", name := "get", desc := "(I)Ljava/lang/Object;" } : Jvm.MethodName) prog_22_method_20_code (2 : Nat) (Option.some (Jvm.ClassFile.FieldType.object "java/lang/Object"))) ∈ TBL := mT (List.mem_append_left _ (List.mem_of_getElem? (i := 169) rfl)) (by decide +kernel)
theorem m_170 : (Jvm.Cond.methodLink "java/util/ArrayList" (118 : Nat) ({ cls := "java/util/Objects", name := "checkIndex", desc := "(II)I" } : Jvm.MethodName)) ∈ TBL := mT (List.mem_append_left _ (List.mem_of_getElem? (i := 170) rfl)) (by decide +kernel)
theorem m_171 : (Jvm.Cond.static ({ cls := "java/util/Objects", name := "checkIndex", desc := "(II)I" } : Jvm.MethodName)) ∈ TBL := mT (List.mem_append_left _ (List.mem_of_getElem? (i := 171) rfl)) (by decide +kernel)
theorem m_172 : (Jvm.Cond.code ({ cls := "java/util/Objects", name := "checkIndex", desc := "(II)I" } : Jvm.MethodName) prog_27_method_17_code (2 : Nat) (Option.some Jvm.ClassFile.FieldType.int)) ∈ TBL := mT (List.mem_append_left _ (List.mem_of_getElem? (i := 172) rfl)) (by decide +kernel)
theorem m_173 : (Jvm.Cond.methodLink "java/util/Objects" (105 : Nat) ({ cls := "jdk/internal/util/Preconditions", name := "checkIndex", desc := "(IILjava/util/function/BiFunction;)I" } : Jvm.MethodName)) ∈ TBL := mT (List.mem_append_left _ (List.mem_of_getElem? (i := 173) rfl)) (by decide +kernel)
theorem m_174 : (Jvm.Cond.static ({ cls := "jdk/internal/util/Preconditions", name := "checkIndex", desc := "(IILjava/util/function/BiFunction;)I" } : Jvm.MethodName)) ∈ TBL := mT (List.mem_append_left _ (List.mem_of_getElem? (i := 174) rfl)) (by decide +kernel)
theorem m_175 : (Jvm.Cond.code ({ cls := "jdk/internal/util/Preconditions", name := "checkIndex", desc := "(IILjava/util/function/BiFunction;)I" } : Jvm.MethodName) prog_31_method_11_code (3 : Nat) (Option.some Jvm.ClassFile.FieldType.int)) ∈ TBL := mT (List.mem_append_left _ (List.mem_of_getElem? (i := 175) rfl)) (by decide +kernel)
theorem m_176 : (Jvm.Cond.methodLink "java/util/ArrayList" (123 : Nat) ({ cls := "java/util/ArrayList", name := "elementData", desc := "(I)Ljava/lang/Object;" } : Jvm.MethodName)) ∈ TBL := mT (List.mem_append_left _ (List.mem_of_getElem? (i := 176) rfl)) (by decide +kernel)
theorem m_177 : (Jvm.Cond.instanceMethod ({ cls := "java/util/ArrayList", name := "elementData", desc := "(I)Ljava/lang/Object;" } : Jvm.MethodName)) ∈ TBL := mT (List.mem_append_left _ (List.mem_of_getElem? (i := 177) rfl)) (by decide +kernel)
theorem m_178 : (Jvm.Cond.selects "java/util/ArrayList" ({ cls := "java/util/ArrayList", name := "elementData", desc := "(I)Ljava/lang/Object;" } : Jvm.MethodName) ({ cls := "java/util/ArrayList", name := "elementData", desc := "(I)Ljava/lang/Object;" } : Jvm.MethodName)) ∈ TBL := mT (List.mem_append_left _ (List.mem_of_getElem? (i := 178) rfl)) (by decide +kernel)
theorem m_179 : (Jvm.Cond.code ({ cls := "java/util/ArrayList", name := "elementData", desc := "(I)Ljava/lang/Object;" } : Jvm.MethodName) prog_22_method_18_code (2 : Nat) (Option.some (Jvm.ClassFile.FieldType.object "java/lang/Object"))) ∈ TBL := mT (List.mem_append_left _ (List.mem_of_getElem? (i := 179) rfl)) (by decide +kernel)
theorem m_180 : (Jvm.Cond.classLink "RuleClasses" (89 : Nat) "RuleClasses$Edition") ∈ TBL := mT (List.mem_append_left _ (List.mem_of_getElem? (i := 180) rfl)) (by decide +kernel)
theorem m_181 : (Jvm.Cond.methodLink "RuleClasses" (210 : Nat) ({ cls := "RuleClasses", name := "failedQuestions", desc := "()I" } : Jvm.MethodName)) ∈ TBL := mT (List.mem_append_left _ (List.mem_of_getElem? (i := 181) rfl)) (by decide +kernel)
theorem m_183 : (Jvm.Cond.instanceMethod ({ cls := "RuleClasses", name := "failedQuestions", desc := "()I" } : Jvm.MethodName)) ∈ TBL := mT (List.mem_append_left _ (List.mem_of_getElem? (i := 183) rfl)) (by decide +kernel)
theorem m_184 : (Jvm.Cond.code ({ cls := "RuleClasses", name := "failedQuestions", desc := "()I" } : Jvm.MethodName) prog_1_method_33_code (3 : Nat) (Option.some Jvm.ClassFile.FieldType.int)) ∈ TBL := mT (List.mem_append_left _ (List.mem_of_getElem? (i := 184) rfl)) (by decide +kernel)
theorem m_185 : (Jvm.Cond.methodLink "RuleClassesLaw" (81 : Nat) ({ cls := "RuleClassesLaw", name := "cell", desc := "([II)I" } : Jvm.MethodName)) ∈ TBL := mT (List.mem_append_left _ (List.mem_of_getElem? (i := 185) rfl)) (by decide +kernel)
theorem m_186 : (Jvm.Cond.static ({ cls := "RuleClassesLaw", name := "cell", desc := "([II)I" } : Jvm.MethodName)) ∈ TBL := mT (List.mem_append_left _ (List.mem_of_getElem? (i := 186) rfl)) (by decide +kernel)
theorem m_187 : (Jvm.Cond.code ({ cls := "RuleClassesLaw", name := "cell", desc := "([II)I" } : Jvm.MethodName) method_2_code (2 : Nat) (Option.some Jvm.ClassFile.FieldType.int)) ∈ TBL := mT (List.mem_append_left _ (List.mem_of_getElem? (i := 187) rfl)) (by decide +kernel)
theorem m_188 : (Jvm.Cond.methodLink "RuleClassesLaw" (92 : Nat) ({ cls := "RuleClassesLaw", name := "today", desc := "(LRuleClasses;I)I" } : Jvm.MethodName)) ∈ TBL := mT (List.mem_append_left _ (List.mem_of_getElem? (i := 188) rfl)) (by decide +kernel)
theorem m_189 : (Jvm.Cond.static ({ cls := "RuleClassesLaw", name := "today", desc := "(LRuleClasses;I)I" } : Jvm.MethodName)) ∈ TBL := mT (List.mem_append_left _ (List.mem_of_getElem? (i := 189) rfl)) (by decide +kernel)
theorem m_190 : (Jvm.Cond.codeWith ({ cls := "RuleClassesLaw", name := "today", desc := "(LRuleClasses;I)I" } : Jvm.MethodName) method_3_code (3 : Nat) (Option.some Jvm.ClassFile.FieldType.int) [((0 : Nat), (5 : Nat), (8 : Nat), (13 : Nat))]) ∈ TBL := mT (List.mem_append_left _ (List.mem_of_getElem? (i := 190) rfl)) (by decide +kernel)
theorem m_191 : (Jvm.Cond.classLink "RuleClassesLaw" (13 : Nat) "java/lang/IllegalArgumentException") ∈ TBL := mT (List.mem_append_left _ (List.mem_of_getElem? (i := 191) rfl)) (by decide +kernel)
theorem m_192 : (Jvm.Cond.methodLink "RuleClassesLaw" (7 : Nat) ({ cls := "RuleClasses", name := "today", desc := "(I)V" } : Jvm.MethodName)) ∈ TBL := mT (List.mem_append_left _ (List.mem_of_getElem? (i := 192) rfl)) (by decide +kernel)
theorem m_193 : (Jvm.Cond.instanceMethod ({ cls := "RuleClasses", name := "today", desc := "(I)V" } : Jvm.MethodName)) ∈ TBL := mT (List.mem_append_left _ (List.mem_of_getElem? (i := 193) rfl)) (by decide +kernel)
theorem m_194 : (Jvm.Cond.selects "RuleClasses" ({ cls := "RuleClasses", name := "today", desc := "(I)V" } : Jvm.MethodName) ({ cls := "RuleClasses", name := "today", desc := "(I)V" } : Jvm.MethodName)) ∈ TBL := mT (List.mem_append_left _ (List.mem_of_getElem? (i := 194) rfl)) (by decide +kernel)
theorem m_195 : (Jvm.Cond.code ({ cls := "RuleClasses", name := "today", desc := "(I)V" } : Jvm.MethodName) prog_1_method_2_code (2 : Nat) (Option.none : Option Jvm.ClassFile.FieldType)) ∈ TBL := mT (List.mem_append_left _ (List.mem_of_getElem? (i := 195) rfl)) (by decide +kernel)
theorem m_196 : (Jvm.Cond.methodLink "RuleClasses" (67 : Nat) ({ cls := "RuleClasses", name := "requireRange", desc := "(III)V" } : Jvm.MethodName)) ∈ TBL := mT (List.mem_append_left _ (List.mem_of_getElem? (i := 196) rfl)) (by decide +kernel)
theorem m_197 : (Jvm.Cond.static ({ cls := "RuleClasses", name := "requireRange", desc := "(III)V" } : Jvm.MethodName)) ∈ TBL := mT (List.mem_append_left _ (List.mem_of_getElem? (i := 197) rfl)) (by decide +kernel)
theorem m_198 : (Jvm.Cond.code ({ cls := "RuleClasses", name := "requireRange", desc := "(III)V" } : Jvm.MethodName) prog_1_method_21_code (3 : Nat) (Option.none : Option Jvm.ClassFile.FieldType)) ∈ TBL := mT (List.mem_append_left _ (List.mem_of_getElem? (i := 198) rfl)) (by decide +kernel)
theorem m_199 : (Jvm.Cond.classLink "RuleClasses" (213 : Nat) "java/lang/IllegalArgumentException") ∈ TBL := mT (List.mem_append_left _ (List.mem_of_getElem? (i := 199) rfl)) (by decide +kernel)
theorem m_269 : (Jvm.Cond.methodLink "RuleClasses" (71 : Nat) ({ cls := "RuleClasses", name := "endHandle", desc := "()V" } : Jvm.MethodName)) ∈ TBL := mT (List.mem_append_right _ (List.mem_append_left _ (List.mem_of_getElem? (i := 29) rfl))) (by decide +kernel)
theorem m_271 : (Jvm.Cond.instanceMethod ({ cls := "RuleClasses", name := "endHandle", desc := "()V" } : Jvm.MethodName)) ∈ TBL := mT (List.mem_append_right _ (List.mem_append_left _ (List.mem_of_getElem? (i := 31) rfl))) (by decide +kernel)
theorem m_272 : (Jvm.Cond.code ({ cls := "RuleClasses", name := "endHandle", desc := "()V" } : Jvm.MethodName) prog_1_method_29_code (1 : Nat) (Option.none : Option Jvm.ClassFile.FieldType)) ∈ TBL := mT (List.mem_append_right _ (List.mem_append_left _ (List.mem_of_getElem? (i := 32) rfl))) (by decide +kernel)
theorem m_273 : (Jvm.Cond.methodLink "RuleClassesLaw" (96 : Nat) ({ cls := "RuleClassesLaw", name := "rule", desc := "(LRuleClasses;III[J)I" } : Jvm.MethodName)) ∈ TBL := mT (List.mem_append_right _ (List.mem_append_left _ (List.mem_of_getElem? (i := 33) rfl))) (by decide +kernel)
theorem m_274 : (Jvm.Cond.static ({ cls := "RuleClassesLaw", name := "rule", desc := "(LRuleClasses;III[J)I" } : Jvm.MethodName)) ∈ TBL := mT (List.mem_append_right _ (List.mem_append_left _ (List.mem_of_getElem? (i := 34) rfl))) (by decide +kernel)
theorem m_275 : (Jvm.Cond.codeWith ({ cls := "RuleClassesLaw", name := "rule", desc := "(LRuleClasses;III[J)I" } : Jvm.MethodName) method_4_code (6 : Nat) (Option.some Jvm.ClassFile.FieldType.int) [((0 : Nat), (12 : Nat), (15 : Nat), (13 : Nat)), ((0 : Nat), (12 : Nat), (19 : Nat), (19 : Nat))]) ∈ TBL := mT (List.mem_append_right _ (List.mem_append_left _ (List.mem_of_getElem? (i := 35) rfl))) (by decide +kernel)
theorem m_276 : (Jvm.Cond.classLink "RuleClassesLaw" (19 : Nat) "java/lang/UnsupportedOperationException") ∈ TBL := mT (List.mem_append_right _ (List.mem_append_left _ (List.mem_of_getElem? (i := 36) rfl))) (by decide +kernel)
theorem m_277 : (Jvm.Cond.methodLink "RuleClassesLaw" (15 : Nat) ({ cls := "RuleClasses", name := "rule", desc := "(III)I" } : Jvm.MethodName)) ∈ TBL := mT (List.mem_append_right _ (List.mem_append_left _ (List.mem_of_getElem? (i := 37) rfl))) (by decide +kernel)
theorem m_278 : (Jvm.Cond.instanceMethod ({ cls := "RuleClasses", name := "rule", desc := "(III)I" } : Jvm.MethodName)) ∈ TBL := mT (List.mem_append_right _ (List.mem_append_left _ (List.mem_of_getElem? (i := 38) rfl))) (by decide +kernel)
theorem m_279 : (Jvm.Cond.selects "RuleClasses" ({ cls := "RuleClasses", name := "rule", desc := "(III)I" } : Jvm.MethodName) ({ cls := "RuleClasses", name := "rule", desc := "(III)I" } : Jvm.MethodName)) ∈ TBL := mT (List.mem_append_right _ (List.mem_append_left _ (List.mem_of_getElem? (i := 39) rfl))) (by decide +kernel)
theorem m_280 : (Jvm.Cond.code ({ cls := "RuleClasses", name := "rule", desc := "(III)I" } : Jvm.MethodName) prog_1_method_3_code (4 : Nat) (Option.some Jvm.ClassFile.FieldType.int)) ∈ TBL := mT (List.mem_append_right _ (List.mem_append_left _ (List.mem_of_getElem? (i := 40) rfl))) (by decide +kernel)
theorem m_281 : (Jvm.Cond.methodLink "RuleClasses" (74 : Nat) ({ cls := "RuleClasses", name := "requireOwnerAndKind", desc := "(II)V" } : Jvm.MethodName)) ∈ TBL := mT (List.mem_append_right _ (List.mem_append_left _ (List.mem_of_getElem? (i := 41) rfl))) (by decide +kernel)
theorem m_282 : (Jvm.Cond.static ({ cls := "RuleClasses", name := "requireOwnerAndKind", desc := "(II)V" } : Jvm.MethodName)) ∈ TBL := mT (List.mem_append_right _ (List.mem_append_left _ (List.mem_of_getElem? (i := 42) rfl))) (by decide +kernel)
theorem m_283 : (Jvm.Cond.code ({ cls := "RuleClasses", name := "requireOwnerAndKind", desc := "(II)V" } : Jvm.MethodName) prog_1_method_22_code (2 : Nat) (Option.none : Option Jvm.ClassFile.FieldType)) ∈ TBL := mT (List.mem_append_right _ (List.mem_append_left _ (List.mem_of_getElem? (i := 43) rfl))) (by decide +kernel)
theorem m_284 : (Jvm.Cond.classLink "RuleClasses" (82 : Nat) "java/lang/UnsupportedOperationException") ∈ TBL := mT (List.mem_append_right _ (List.mem_append_left _ (List.mem_of_getElem? (i := 44) rfl))) (by decide +kernel)
theorem m_300 : (Jvm.Cond.instantiable "RuleClasses$Edition" (10 : Nat)) ∈ TBL := mT (List.mem_append_right _ (List.mem_append_left _ (List.mem_of_getElem? (i := 60) rfl))) (by decide +kernel)
theorem m_301 : (Jvm.Cond.methodLink "RuleClasses" (91 : Nat) ({ cls := "RuleClasses$Edition", name := "<init>", desc := "(III)V" } : Jvm.MethodName)) ∈ TBL := mT (List.mem_append_right _ (List.mem_append_left _ (List.mem_of_getElem? (i := 61) rfl))) (by decide +kernel)
theorem m_302 : (Jvm.Cond.instanceMethod ({ cls := "RuleClasses$Edition", name := "<init>", desc := "(III)V" } : Jvm.MethodName)) ∈ TBL := mT (List.mem_append_right _ (List.mem_append_left _ (List.mem_of_getElem? (i := 62) rfl))) (by decide +kernel)
theorem m_303 : (Jvm.Cond.code ({ cls := "RuleClasses$Edition", name := "<init>", desc := "(III)V" } : Jvm.MethodName) prog_2_method_1_code (4 : Nat) (Option.none : Option Jvm.ClassFile.FieldType)) ∈ TBL := mT (List.mem_append_right _ (List.mem_append_left _ (List.mem_of_getElem? (i := 63) rfl))) (by decide +kernel)
theorem m_304 : (Jvm.Cond.methodLink "RuleClasses$Edition" (3 : Nat) ({ cls := "java/lang/Object", name := "<init>", desc := "()V" } : Jvm.MethodName)) ∈ TBL := mT (List.mem_append_right _ (List.mem_append_left _ (List.mem_of_getElem? (i := 64) rfl))) (by decide +kernel)
theorem m_305 : (Jvm.Cond.fieldLink "RuleClasses$Edition" (18 : Nat) "RuleClasses$Edition" "owner" "I") ∈ TBL := mT (List.mem_append_right _ (List.mem_append_left _ (List.mem_of_getElem? (i := 65) rfl))) (by decide +kernel)
theorem m_306 : (Jvm.Cond.fieldLink "RuleClasses$Edition" (22 : Nat) "RuleClasses$Edition" "kind" "I") ∈ TBL := mT (List.mem_append_right _ (List.mem_append_left _ (List.mem_of_getElem? (i := 66) rfl))) (by decide +kernel)
theorem m_307 : (Jvm.Cond.fieldLink "RuleClasses" (179 : Nat) "RuleClasses$Edition" "kind" "I") ∈ TBL := mT (List.mem_append_right _ (List.mem_append_left _ (List.mem_of_getElem? (i := 67) rfl))) (by decide +kernel)
theorem m_308 : (Jvm.Cond.fieldLink "RuleClasses$Edition" (25 : Nat) "RuleClasses$Edition" "day" "I") ∈ TBL := mT (List.mem_append_right _ (List.mem_append_left _ (List.mem_of_getElem? (i := 68) rfl))) (by decide +kernel)
theorem m_309 : (Jvm.Cond.fieldLink "RuleClasses" (229 : Nat) "RuleClasses$Edition" "day" "I") ∈ TBL := mT (List.mem_append_right _ (List.mem_append_left _ (List.mem_of_getElem? (i := 69) rfl))) (by decide +kernel)
theorem m_310 : (Jvm.Cond.fieldLink "RuleClasses$Edition" (9 : Nat) "RuleClasses$Edition" "ops" "[I") ∈ TBL := mT (List.mem_append_right _ (List.mem_append_left _ (List.mem_of_getElem? (i := 70) rfl))) (by decide +kernel)
theorem m_311 : (Jvm.Cond.fieldLink "RuleClasses$Run" (50 : Nat) "RuleClasses$Edition" "ops" "[I") ∈ TBL := mT (List.mem_append_right _ (List.mem_append_left _ (List.mem_of_getElem? (i := 71) rfl))) (by decide +kernel)
theorem m_312 : (Jvm.Cond.fieldLink "RuleClasses$Edition" (15 : Nat) "RuleClasses$Edition" "constants" "[I") ∈ TBL := mT (List.mem_append_right _ (List.mem_append_left _ (List.mem_of_getElem? (i := 72) rfl))) (by decide +kernel)
theorem m_313 : (Jvm.Cond.fieldLink "RuleClasses$Run" (53 : Nat) "RuleClasses$Edition" "constants" "[I") ∈ TBL := mT (List.mem_append_right _ (List.mem_append_left _ (List.mem_of_getElem? (i := 73) rfl))) (by decide +kernel)
theorem m_314 : (Jvm.Cond.fieldLink "RuleClasses$Edition" (28 : Nat) "RuleClasses$Edition" "length" "I") ∈ TBL := mT (List.mem_append_right _ (List.mem_append_left _ (List.mem_of_getElem? (i := 74) rfl))) (by decide +kernel)
theorem m_315 : (Jvm.Cond.fieldLink "RuleClasses" (112 : Nat) "RuleClasses$Edition" "length" "I") ∈ TBL := mT (List.mem_append_right _ (List.mem_append_left _ (List.mem_of_getElem? (i := 75) rfl))) (by decide +kernel)
theorem m_316 : (Jvm.Cond.fieldLink "RuleClasses$Run" (41 : Nat) "RuleClasses$Edition" "length" "I") ∈ TBL := mT (List.mem_append_right _ (List.mem_append_left _ (List.mem_of_getElem? (i := 76) rfl))) (by decide +kernel)
theorem m_317 : (Jvm.Cond.fieldLink "RuleClasses$Edition" (31 : Nat) "RuleClasses$Edition" "made" "Z") ∈ TBL := mT (List.mem_append_right _ (List.mem_append_left _ (List.mem_of_getElem? (i := 77) rfl))) (by decide +kernel)
theorem m_318 : (Jvm.Cond.fieldLink "RuleClasses" (127 : Nat) "RuleClasses$Edition" "made" "Z") ∈ TBL := mT (List.mem_append_right _ (List.mem_append_left _ (List.mem_of_getElem? (i := 78) rfl))) (by decide +kernel)
theorem m_319 : (Jvm.Cond.fieldLink "RuleClasses$Edition" (35 : Nat) "RuleClasses$Edition" "timesAsked" "I") ∈ TBL := mT (List.mem_append_right _ (List.mem_append_left _ (List.mem_of_getElem? (i := 79) rfl))) (by decide +kernel)
theorem m_320 : (Jvm.Cond.fieldLink "RuleClasses$Run" (69 : Nat) "RuleClasses$Edition" "timesAsked" "I") ∈ TBL := mT (List.mem_append_right _ (List.mem_append_left _ (List.mem_of_getElem? (i := 80) rfl))) (by decide +kernel)
theorem m_321 : (Jvm.Cond.fieldLink "RuleClasses$Edition" (38 : Nat) "RuleClasses$Edition" "stepsAsked" "I") ∈ TBL := mT (List.mem_append_right _ (List.mem_append_left _ (List.mem_of_getElem? (i := 81) rfl))) (by decide +kernel)
theorem m_322 : (Jvm.Cond.fieldLink "RuleClasses$Edition" (49 : Nat) "RuleClasses$Edition" "timesFailed" "I") ∈ TBL := mT (List.mem_append_right _ (List.mem_append_left _ (List.mem_of_getElem? (i := 82) rfl))) (by decide +kernel)
theorem m_323 : (Jvm.Cond.laysFinal "RuleClasses$Edition" "RuleClasses$Edition" "owner" "I") ∈ TBL := mT (List.mem_append_right _ (List.mem_append_left _ (List.mem_of_getElem? (i := 83) rfl))) (by decide +kernel)
theorem m_325 : (Jvm.Cond.laysFinal "RuleClasses$Edition" "RuleClasses$Edition" "kind" "I") ∈ TBL := mT (List.mem_append_right _ (List.mem_append_left _ (List.mem_of_getElem? (i := 85) rfl))) (by decide +kernel)
theorem m_327 : (Jvm.Cond.laysFinal "RuleClasses$Edition" "RuleClasses$Edition" "day" "I") ∈ TBL := mT (List.mem_append_right _ (List.mem_append_left _ (List.mem_of_getElem? (i := 87) rfl))) (by decide +kernel)
theorem m_329 : (Jvm.Cond.laysFinal "RuleClasses$Edition" "RuleClasses$Edition" "ops" "[I") ∈ TBL := mT (List.mem_append_right _ (List.mem_append_left _ (List.mem_of_getElem? (i := 89) rfl))) (by decide +kernel)
theorem m_331 : (Jvm.Cond.laysFinal "RuleClasses$Edition" "RuleClasses$Edition" "constants" "[I") ∈ TBL := mT (List.mem_append_right _ (List.mem_append_left _ (List.mem_of_getElem? (i := 91) rfl))) (by decide +kernel)
theorem m_333 : (Jvm.Cond.lays "RuleClasses$Edition" "RuleClasses$Edition" "length" "I") ∈ TBL := mT (List.mem_append_right _ (List.mem_append_left _ (List.mem_of_getElem? (i := 93) rfl))) (by decide +kernel)
theorem m_335 : (Jvm.Cond.lays "RuleClasses$Edition" "RuleClasses$Edition" "made" "Z") ∈ TBL := mT (List.mem_append_right _ (List.mem_append_left _ (List.mem_of_getElem? (i := 95) rfl))) (by decide +kernel)
theorem m_337 : (Jvm.Cond.lays "RuleClasses$Edition" "RuleClasses$Edition" "timesAsked" "I") ∈ TBL := mT (List.mem_append_right _ (List.mem_append_left _ (List.mem_of_getElem? (i := 97) rfl))) (by decide +kernel)
theorem m_339 : (Jvm.Cond.lays "RuleClasses$Edition" "RuleClasses$Edition" "stepsAsked" "I") ∈ TBL := mT (List.mem_append_right _ (List.mem_append_left _ (List.mem_of_getElem? (i := 99) rfl))) (by decide +kernel)
theorem m_341 : (Jvm.Cond.lays "RuleClasses$Edition" "RuleClasses$Edition" "timesFailed" "I") ∈ TBL := mT (List.mem_append_right _ (List.mem_append_left _ (List.mem_of_getElem? (i := 101) rfl))) (by decide +kernel)
theorem m_344 : (Jvm.Cond.methodLink "RuleClasses" (93 : Nat) ({ cls := "java/util/ArrayList", name := "add", desc := "(Ljava/lang/Object;)Z" } : Jvm.MethodName)) ∈ TBL := mT (List.mem_append_right _ (List.mem_append_left _ (List.mem_of_getElem? (i := 104) rfl))) (by decide +kernel)
theorem m_345 : (Jvm.Cond.instanceMethod ({ cls := "java/util/ArrayList", name := "add", desc := "(Ljava/lang/Object;)Z" } : Jvm.MethodName)) ∈ TBL := mT (List.mem_append_right _ (List.mem_append_left _ (List.mem_of_getElem? (i := 105) rfl))) (by decide +kernel)
theorem m_346 : (Jvm.Cond.selects "java/util/ArrayList" ({ cls := "java/util/ArrayList", name := "add", desc := "(Ljava/lang/Object;)Z" } : Jvm.MethodName) ({ cls := "java/util/ArrayList", name := "add", desc := "(Ljava/lang/Object;)Z" } : Jvm.MethodName)) ∈ TBL := mT (List.mem_append_right _ (List.mem_append_left _ (List.mem_of_getElem? (i := 106) rfl))) (by decide +kernel)
theorem m_347 : (Jvm.Cond.code ({ cls := "java/util/ArrayList", name := "add", desc := "(Ljava/lang/Object;)Z" } : Jvm.MethodName) prog_22_method_25_code (2 : Nat) (Option.some Jvm.ClassFile.FieldType.boolean)) ∈ TBL := mT (List.mem_append_right _ (List.mem_append_left _ (List.mem_of_getElem? (i := 107) rfl))) (by decide +kernel)
theorem m_348 : (Jvm.Cond.methodLink "java/util/ArrayList" (131 : Nat) ({ cls := "java/util/ArrayList", name := "add", desc := "(Ljava/lang/Object;[Ljava/lang/Object;I)V" } : Jvm.MethodName)) ∈ TBL := mT (List.mem_append_right _ (List.mem_append_left _ (List.mem_of_getElem? (i := 108) rfl))) (by decide +kernel)
theorem m_350 : (Jvm.Cond.instanceMethod ({ cls := "java/util/ArrayList", name := "add", desc := "(Ljava/lang/Object;[Ljava/lang/Object;I)V" } : Jvm.MethodName)) ∈ TBL := mT (List.mem_append_right _ (List.mem_append_left _ (List.mem_of_getElem? (i := 110) rfl))) (by decide +kernel)
theorem m_351 : (Jvm.Cond.code ({ cls := "java/util/ArrayList", name := "add", desc := "(Ljava/lang/Object;[Ljava/lang/Object;I)V" } : Jvm.MethodName) prog_22_method_24_code (4 : Nat) (Option.none : Option Jvm.ClassFile.FieldType)) ∈ TBL := mT (List.mem_append_right _ (List.mem_append_left _ (List.mem_of_getElem? (i := 111) rfl))) (by decide +kernel)
theorem m_352 : (Jvm.Cond.methodLink "java/util/ArrayList" (129 : Nat) ({ cls := "java/util/ArrayList", name := "grow", desc := "()[Ljava/lang/Object;" } : Jvm.MethodName)) ∈ TBL := mT (List.mem_append_right _ (List.mem_append_left _ (List.mem_of_getElem? (i := 112) rfl))) (by decide +kernel)
theorem m_354 : (Jvm.Cond.instanceMethod ({ cls := "java/util/ArrayList", name := "grow", desc := "()[Ljava/lang/Object;" } : Jvm.MethodName)) ∈ TBL := mT (List.mem_append_right _ (List.mem_append_left _ (List.mem_of_getElem? (i := 114) rfl))) (by decide +kernel)
theorem m_355 : (Jvm.Cond.code ({ cls := "java/util/ArrayList", name := "grow", desc := "()[Ljava/lang/Object;" } : Jvm.MethodName) prog_22_method_7_code (1 : Nat) (Option.some (Jvm.ClassFile.FieldType.array (Jvm.ClassFile.FieldType.object "java/lang/Object")))) ∈ TBL := mT (List.mem_append_right _ (List.mem_append_left _ (List.mem_of_getElem? (i := 115) rfl))) (by decide +kernel)
theorem m_356 : (Jvm.Cond.methodLink "java/util/ArrayList" (69 : Nat) ({ cls := "java/util/ArrayList", name := "grow", desc := "(I)[Ljava/lang/Object;" } : Jvm.MethodName)) ∈ TBL := mT (List.mem_append_right _ (List.mem_append_left _ (List.mem_of_getElem? (i := 116) rfl))) (by decide +kernel)
theorem m_358 : (Jvm.Cond.instanceMethod ({ cls := "java/util/ArrayList", name := "grow", desc := "(I)[Ljava/lang/Object;" } : Jvm.MethodName)) ∈ TBL := mT (List.mem_append_right _ (List.mem_append_left _ (List.mem_of_getElem? (i := 118) rfl))) (by decide +kernel)
theorem m_359 : (Jvm.Cond.code ({ cls := "java/util/ArrayList", name := "grow", desc := "(I)[Ljava/lang/Object;" } : Jvm.MethodName) prog_22_method_6_code (4 : Nat) (Option.some (Jvm.ClassFile.FieldType.array (Jvm.ClassFile.FieldType.object "java/lang/Object")))) ∈ TBL := mT (List.mem_append_right _ (List.mem_append_left _ (List.mem_of_getElem? (i := 119) rfl))) (by decide +kernel)
theorem m_360 : (Jvm.Cond.methodLink "java/util/ArrayList" (73 : Nat) ({ cls := "jdk/internal/util/ArraysSupport", name := "newLength", desc := "(III)I" } : Jvm.MethodName)) ∈ TBL := mT (List.mem_append_right _ (List.mem_append_left _ (List.mem_of_getElem? (i := 120) rfl))) (by decide +kernel)
theorem m_361 : (Jvm.Cond.static ({ cls := "jdk/internal/util/ArraysSupport", name := "newLength", desc := "(III)I" } : Jvm.MethodName)) ∈ TBL := mT (List.mem_append_right _ (List.mem_append_left _ (List.mem_of_getElem? (i := 121) rfl))) (by decide +kernel)
theorem m_362 : (Jvm.Cond.code ({ cls := "jdk/internal/util/ArraysSupport", name := "newLength", desc := "(III)I" } : Jvm.MethodName) prog_30_method_27_code (4 : Nat) (Option.some Jvm.ClassFile.FieldType.int)) ∈ TBL := mT (List.mem_append_right _ (List.mem_append_left _ (List.mem_of_getElem? (i := 122) rfl))) (by decide +kernel)
theorem m_363 : (Jvm.Cond.methodLink "jdk/internal/util/ArraysSupport" (194 : Nat) ({ cls := "java/lang/Math", name := "max", desc := "(II)I" } : Jvm.MethodName)) ∈ TBL := mT (List.mem_append_right _ (List.mem_append_left _ (List.mem_of_getElem? (i := 123) rfl))) (by decide +kernel)
theorem m_364 : (Jvm.Cond.constant "jdk/internal/util/ArraysSupport" (200 : Nat) (2147483639 : Int32)) ∈ TBL := mT (List.mem_append_right _ (List.mem_append_left _ (List.mem_of_getElem? (i := 124) rfl))) (by decide +kernel)
theorem m_368 : (Jvm.Cond.methodLink "java/util/ArrayList" (66 : Nat) ({ cls := "java/util/Arrays", name := "copyOf", desc := "([Ljava/lang/Object;I)[Ljava/lang/Object;" } : Jvm.MethodName)) ∈ TBL := mT (List.mem_append_right _ (List.mem_append_left _ (List.mem_of_getElem? (i := 128) rfl))) (by decide +kernel)
theorem m_369 : (Jvm.Cond.static ({ cls := "java/util/Arrays", name := "copyOf", desc := "([Ljava/lang/Object;I)[Ljava/lang/Object;" } : Jvm.MethodName)) ∈ TBL := mT (List.mem_append_right _ (List.mem_append_left _ (List.mem_of_getElem? (i := 129) rfl))) (by decide +kernel)
theorem m_370 : (Jvm.Cond.code ({ cls := "java/util/Arrays", name := "copyOf", desc := "([Ljava/lang/Object;I)[Ljava/lang/Object;" } : Jvm.MethodName) prog_23_method_119_code (2 : Nat) (Option.some (Jvm.ClassFile.FieldType.array (Jvm.ClassFile.FieldType.object "java/lang/Object")))) ∈ TBL := mT (List.mem_append_right _ (List.mem_append_left _ (List.mem_of_getElem? (i := 130) rfl))) (by decide +kernel)
theorem m_371 : (Jvm.Cond.methodLink "java/util/Arrays" (86 : Nat) ({ cls := "java/lang/Object", name := "getClass", desc := "()Ljava/lang/Class;" } : Jvm.MethodName)) ∈ TBL := mT (List.mem_append_right _ (List.mem_append_left _ (List.mem_of_getElem? (i := 131) rfl))) (by decide +kernel)
theorem m_372 : (Jvm.Cond.instanceMethod ({ cls := "java/lang/Object", name := "getClass", desc := "()Ljava/lang/Class;" } : Jvm.MethodName)) ∈ TBL := mT (List.mem_append_right _ (List.mem_append_left _ (List.mem_of_getElem? (i := 132) rfl))) (by decide +kernel)
theorem m_385 : (Jvm.Cond.native ({ cls := "java/lang/Object", name := "getClass", desc := "()Ljava/lang/Class;" } : Jvm.MethodName)) ∈ TBL := mT (List.mem_append_right _ (List.mem_append_left _ (List.mem_of_getElem? (i := 145) rfl))) (by decide +kernel)
theorem m_386 : (Jvm.Cond.methodLink "java/util/Arrays" (300 : Nat) ({ cls := "java/util/Arrays", name := "copyOf", desc := "([Ljava/lang/Object;ILjava/lang/Class;)[Ljava/lang/Object;" } : Jvm.MethodName)) ∈ TBL := mT (List.mem_append_right _ (List.mem_append_left _ (List.mem_of_getElem? (i := 146) rfl))) (by decide +kernel)
theorem m_387 : (Jvm.Cond.static ({ cls := "java/util/Arrays", name := "copyOf", desc := "([Ljava/lang/Object;ILjava/lang/Class;)[Ljava/lang/Object;" } : Jvm.MethodName)) ∈ TBL := mT (List.mem_append_right _ (List.mem_append_left _ (List.mem_of_getElem? (i := 147) rfl))) (by decide +kernel)
theorem m_388 : (Jvm.Cond.code ({ cls := "java/util/Arrays", name := "copyOf", desc := "([Ljava/lang/Object;ILjava/lang/Class;)[Ljava/lang/Object;" } : Jvm.MethodName) prog_23_method_120_code (4 : Nat) (Option.some (Jvm.ClassFile.FieldType.array (Jvm.ClassFile.FieldType.object "java/lang/Object")))) ∈ TBL := mT (List.mem_append_right _ (List.mem_append_left _ (List.mem_of_getElem? (i := 148) rfl))) (by decide +kernel)
theorem m_389 : (Jvm.Cond.classLink "java/util/Arrays" (110 : Nat) "[Ljava/lang/Object;") ∈ TBL := mT (List.mem_append_right _ (List.mem_append_left _ (List.mem_of_getElem? (i := 149) rfl))) (by decide +kernel)
theorem m_391 : (Jvm.Cond.classLink "java/util/Arrays" (2 : Nat) "java/lang/Object") ∈ TBL := mT (List.mem_append_right _ (List.mem_append_left _ (List.mem_of_getElem? (i := 151) rfl))) (by decide +kernel)
theorem m_392 : (Jvm.Cond.methodLink "java/util/Arrays" (304 : Nat) ({ cls := "java/lang/Math", name := "min", desc := "(II)I" } : Jvm.MethodName)) ∈ TBL := mT (List.mem_append_right _ (List.mem_append_left _ (List.mem_of_getElem? (i := 152) rfl))) (by decide +kernel)
theorem m_393 : (Jvm.Cond.methodLink "java/util/Arrays" (150 : Nat) ({ cls := "java/lang/System", name := "arraycopy", desc := "(Ljava/lang/Object;ILjava/lang/Object;II)V" } : Jvm.MethodName)) ∈ TBL := mT (List.mem_append_right _ (List.mem_append_left _ (List.mem_of_getElem? (i := 153) rfl))) (by decide +kernel)
theorem m_394 : (Jvm.Cond.static ({ cls := "java/lang/System", name := "arraycopy", desc := "(Ljava/lang/Object;ILjava/lang/Object;II)V" } : Jvm.MethodName)) ∈ TBL := mT (List.mem_append_right _ (List.mem_append_left _ (List.mem_of_getElem? (i := 154) rfl))) (by decide +kernel)
theorem m_395 : (Jvm.Cond.native ({ cls := "java/lang/System", name := "arraycopy", desc := "(Ljava/lang/Object;ILjava/lang/Object;II)V" } : Jvm.MethodName)) ∈ TBL := mT (List.mem_append_right _ (List.mem_append_left _ (List.mem_of_getElem? (i := 155) rfl))) (by decide +kernel)
theorem m_396 : (Jvm.Cond.methodLink "java/util/ArrayList" (79 : Nat) ({ cls := "java/lang/Math", name := "max", desc := "(II)I" } : Jvm.MethodName)) ∈ TBL := mT (List.mem_append_right _ (List.mem_append_left _ (List.mem_of_getElem? (i := 156) rfl))) (by decide +kernel)
theorem m_397 : (Jvm.Cond.classLink "java/util/ArrayList" (7 : Nat) "java/lang/Object") ∈ TBL := mT (List.mem_append_right _ (List.mem_append_left _ (List.mem_of_getElem? (i := 157) rfl))) (by decide +kernel)
theorem m_398 : (Jvm.Cond.methodLink "RuleClassesLaw" (100 : Nat) ({ cls := "RuleClassesLaw", name := "op", desc := "(LRuleClasses;III[J)I" } : Jvm.MethodName)) ∈ TBL := mT (List.mem_append_right _ (List.mem_append_left _ (List.mem_of_getElem? (i := 158) rfl))) (by decide +kernel)
theorem m_399 : (Jvm.Cond.static ({ cls := "RuleClassesLaw", name := "op", desc := "(LRuleClasses;III[J)I" } : Jvm.MethodName)) ∈ TBL := mT (List.mem_append_right _ (List.mem_append_left _ (List.mem_of_getElem? (i := 159) rfl))) (by decide +kernel)
theorem m_400 : (Jvm.Cond.codeWith ({ cls := "RuleClassesLaw", name := "op", desc := "(LRuleClasses;III[J)I" } : Jvm.MethodName) method_5_code (6 : Nat) (Option.some Jvm.ClassFile.FieldType.int) [((0 : Nat), (12 : Nat), (15 : Nat), (24 : Nat)), ((0 : Nat), (12 : Nat), (19 : Nat), (13 : Nat)), ((0 : Nat), (12 : Nat), (23 : Nat), (26 : Nat)), ((0 : Nat), (12 : Nat), (27 : Nat), (19 : Nat))]) ∈ TBL := mT (List.mem_append_right _ (List.mem_append_left _ (List.mem_of_getElem? (i := 160) rfl))) (by decide +kernel)
theorem m_401 : (Jvm.Cond.classLink "RuleClassesLaw" (24 : Nat) "java/util/NoSuchElementException") ∈ TBL := mT (List.mem_append_right _ (List.mem_append_left _ (List.mem_of_getElem? (i := 161) rfl))) (by decide +kernel)
theorem m_402 : (Jvm.Cond.classLink "RuleClassesLaw" (26 : Nat) "java/lang/IllegalStateException") ∈ TBL := mT (List.mem_append_right _ (List.mem_append_left _ (List.mem_of_getElem? (i := 162) rfl))) (by decide +kernel)
theorem m_403 : (Jvm.Cond.methodLink "RuleClassesLaw" (21 : Nat) ({ cls := "RuleClasses", name := "op", desc := "(III)I" } : Jvm.MethodName)) ∈ TBL := mT (List.mem_append_right _ (List.mem_append_left _ (List.mem_of_getElem? (i := 163) rfl))) (by decide +kernel)
theorem m_404 : (Jvm.Cond.instanceMethod ({ cls := "RuleClasses", name := "op", desc := "(III)I" } : Jvm.MethodName)) ∈ TBL := mT (List.mem_append_right _ (List.mem_append_left _ (List.mem_of_getElem? (i := 164) rfl))) (by decide +kernel)
theorem m_405 : (Jvm.Cond.selects "RuleClasses" ({ cls := "RuleClasses", name := "op", desc := "(III)I" } : Jvm.MethodName) ({ cls := "RuleClasses", name := "op", desc := "(III)I" } : Jvm.MethodName)) ∈ TBL := mT (List.mem_append_right _ (List.mem_append_left _ (List.mem_of_getElem? (i := 165) rfl))) (by decide +kernel)
theorem m_406 : (Jvm.Cond.code ({ cls := "RuleClasses", name := "op", desc := "(III)I" } : Jvm.MethodName) prog_1_method_4_code (5 : Nat) (Option.some Jvm.ClassFile.FieldType.int)) ∈ TBL := mT (List.mem_append_right _ (List.mem_append_left _ (List.mem_of_getElem? (i := 166) rfl))) (by decide +kernel)
theorem m_407 : (Jvm.Cond.methodLink "RuleClasses" (97 : Nat) ({ cls := "RuleClasses", name := "editionAt", desc := "(I)LRuleClasses$Edition;" } : Jvm.MethodName)) ∈ TBL := mT (List.mem_append_right _ (List.mem_append_left _ (List.mem_of_getElem? (i := 167) rfl))) (by decide +kernel)
theorem m_409 : (Jvm.Cond.instanceMethod ({ cls := "RuleClasses", name := "editionAt", desc := "(I)LRuleClasses$Edition;" } : Jvm.MethodName)) ∈ TBL := mT (List.mem_append_right _ (List.mem_append_left _ (List.mem_of_getElem? (i := 169) rfl))) (by decide +kernel)
theorem m_410 : (Jvm.Cond.code ({ cls := "RuleClasses", name := "editionAt", desc := "(I)LRuleClasses$Edition;" } : Jvm.MethodName) prog_1_method_25_code (2 : Nat) (Option.some (Jvm.ClassFile.FieldType.object "RuleClasses$Edition"))) ∈ TBL := mT (List.mem_append_right _ (List.mem_append_left _ (List.mem_of_getElem? (i := 170) rfl))) (by decide +kernel)
theorem m_411 : (Jvm.Cond.methodLink "RuleClasses" (196 : Nat) ({ cls := "RuleClasses", name := "requireEdition", desc := "(I)V" } : Jvm.MethodName)) ∈ TBL := mT (List.mem_append_right _ (List.mem_append_left _ (List.mem_of_getElem? (i := 171) rfl))) (by decide +kernel)
theorem m_413 : (Jvm.Cond.instanceMethod ({ cls := "RuleClasses", name := "requireEdition", desc := "(I)V" } : Jvm.MethodName)) ∈ TBL := mT (List.mem_append_right _ (List.mem_append_left _ (List.mem_of_getElem? (i := 173) rfl))) (by decide +kernel)
theorem m_414 : (Jvm.Cond.code ({ cls := "RuleClasses", name := "requireEdition", desc := "(I)V" } : Jvm.MethodName) prog_1_method_24_code (2 : Nat) (Option.none : Option Jvm.ClassFile.FieldType)) ∈ TBL := mT (List.mem_append_right _ (List.mem_append_left _ (List.mem_of_getElem? (i := 174) rfl))) (by decide +kernel)
theorem m_415 : (Jvm.Cond.classLink "RuleClasses" (220 : Nat) "java/util/NoSuchElementException") ∈ TBL := mT (List.mem_append_right _ (List.mem_append_left _ (List.mem_of_getElem? (i := 175) rfl))) (by decide +kernel)
theorem m_431 : (Jvm.Cond.methodLink "RuleClasses" (101 : Nat) ({ cls := "RuleClasses", name := "leastConstant", desc := "(I)I" } : Jvm.MethodName)) ∈ TBL := mT (List.mem_append_right _ (List.mem_append_left _ (List.mem_of_getElem? (i := 191) rfl))) (by decide +kernel)
theorem m_432 : (Jvm.Cond.static ({ cls := "RuleClasses", name := "leastConstant", desc := "(I)I" } : Jvm.MethodName)) ∈ TBL := mT (List.mem_append_right _ (List.mem_append_left _ (List.mem_of_getElem? (i := 192) rfl))) (by decide +kernel)
theorem m_433 : (Jvm.Cond.code ({ cls := "RuleClasses", name := "leastConstant", desc := "(I)I" } : Jvm.MethodName) prog_1_method_26_code (1 : Nat) (Option.some Jvm.ClassFile.FieldType.int)) ∈ TBL := mT (List.mem_append_right _ (List.mem_append_left _ (List.mem_of_getElem? (i := 193) rfl))) (by decide +kernel)
theorem m_434 : (Jvm.Cond.methodLink "RuleClasses" (105 : Nat) ({ cls := "RuleClasses", name := "greatestConstant", desc := "(I)I" } : Jvm.MethodName)) ∈ TBL := mT (List.mem_append_right _ (List.mem_append_left _ (List.mem_of_getElem? (i := 194) rfl))) (by decide +kernel)
theorem m_435 : (Jvm.Cond.static ({ cls := "RuleClasses", name := "greatestConstant", desc := "(I)I" } : Jvm.MethodName)) ∈ TBL := mT (List.mem_append_right _ (List.mem_append_left _ (List.mem_of_getElem? (i := 195) rfl))) (by decide +kernel)
theorem m_436 : (Jvm.Cond.code ({ cls := "RuleClasses", name := "greatestConstant", desc := "(I)I" } : Jvm.MethodName) prog_1_method_27_code (1 : Nat) (Option.some Jvm.ClassFile.FieldType.int)) ∈ TBL := mT (List.mem_append_right _ (List.mem_append_left _ (List.mem_of_getElem? (i := 196) rfl))) (by decide +kernel)
theorem m_437 : (Jvm.Cond.methodLink "RuleClasses" (108 : Nat) ({ cls := "RuleClasses", name := "requireNotMade", desc := "(LRuleClasses$Edition;)V" } : Jvm.MethodName)) ∈ TBL := mT (List.mem_append_right _ (List.mem_append_left _ (List.mem_of_getElem? (i := 197) rfl))) (by decide +kernel)
theorem m_438 : (Jvm.Cond.static ({ cls := "RuleClasses", name := "requireNotMade", desc := "(LRuleClasses$Edition;)V" } : Jvm.MethodName)) ∈ TBL := mT (List.mem_append_right _ (List.mem_append_left _ (List.mem_of_getElem? (i := 198) rfl))) (by decide +kernel)
theorem m_439 : (Jvm.Cond.code ({ cls := "RuleClasses", name := "requireNotMade", desc := "(LRuleClasses$Edition;)V" } : Jvm.MethodName) prog_1_method_23_code (1 : Nat) (Option.none : Option Jvm.ClassFile.FieldType)) ∈ TBL := mT (List.mem_append_right _ (List.mem_append_left _ (List.mem_of_getElem? (i := 199) rfl))) (by decide +kernel)
theorem m_440 : (Jvm.Cond.classLink "RuleClasses" (161 : Nat) "java/lang/IllegalStateException") ∈ TBL := mT (List.mem_append_right _ (List.mem_append_left _ (List.mem_of_getElem? (i := 200) rfl))) (by decide +kernel)
theorem m_457 : (Jvm.Cond.methodLink "RuleClasses" (117 : Nat) ({ cls := "RuleClasses$Edition", name := "append", desc := "(II)V" } : Jvm.MethodName)) ∈ TBL := mT (List.mem_append_right _ (List.mem_append_left _ (List.mem_of_getElem? (i := 217) rfl))) (by decide +kernel)
theorem m_458 : (Jvm.Cond.instanceMethod ({ cls := "RuleClasses$Edition", name := "append", desc := "(II)V" } : Jvm.MethodName)) ∈ TBL := mT (List.mem_append_right _ (List.mem_append_left _ (List.mem_of_getElem? (i := 218) rfl))) (by decide +kernel)
theorem m_459 : (Jvm.Cond.selects "RuleClasses$Edition" ({ cls := "RuleClasses$Edition", name := "append", desc := "(II)V" } : Jvm.MethodName) ({ cls := "RuleClasses$Edition", name := "append", desc := "(II)V" } : Jvm.MethodName)) ∈ TBL := mT (List.mem_append_right _ (List.mem_append_left _ (List.mem_of_getElem? (i := 219) rfl))) (by decide +kernel)
theorem m_460 : (Jvm.Cond.code ({ cls := "RuleClasses$Edition", name := "append", desc := "(II)V" } : Jvm.MethodName) prog_2_method_2_code (3 : Nat) (Option.none : Option Jvm.ClassFile.FieldType)) ∈ TBL := mT (List.mem_append_right _ (List.mem_append_left _ (List.mem_of_getElem? (i := 220) rfl))) (by decide +kernel)
theorem m_461 : (Jvm.Cond.methodLink "RuleClassesLaw" (103 : Nat) ({ cls := "RuleClassesLaw", name := "make", desc := "(LRuleClasses;I[J)I" } : Jvm.MethodName)) ∈ TBL := mT (List.mem_append_right _ (List.mem_append_left _ (List.mem_of_getElem? (i := 221) rfl))) (by decide +kernel)
theorem m_462 : (Jvm.Cond.static ({ cls := "RuleClassesLaw", name := "make", desc := "(LRuleClasses;I[J)I" } : Jvm.MethodName)) ∈ TBL := mT (List.mem_append_right _ (List.mem_append_left _ (List.mem_of_getElem? (i := 222) rfl))) (by decide +kernel)
theorem m_463 : (Jvm.Cond.codeWith ({ cls := "RuleClassesLaw", name := "make", desc := "(LRuleClasses;I[J)I" } : Jvm.MethodName) method_6_code (4 : Nat) (Option.some Jvm.ClassFile.FieldType.int) [((0 : Nat), (9 : Nat), (12 : Nat), (24 : Nat)), ((0 : Nat), (9 : Nat), (15 : Nat), (26 : Nat))]) ∈ TBL := mT (List.mem_append_right _ (List.mem_append_left _ (List.mem_of_getElem? (i := 223) rfl))) (by decide +kernel)
theorem m_464 : (Jvm.Cond.methodLink "RuleClassesLaw" (28 : Nat) ({ cls := "RuleClasses", name := "make", desc := "(I)I" } : Jvm.MethodName)) ∈ TBL := mT (List.mem_append_right _ (List.mem_append_left _ (List.mem_of_getElem? (i := 224) rfl))) (by decide +kernel)
theorem m_465 : (Jvm.Cond.instanceMethod ({ cls := "RuleClasses", name := "make", desc := "(I)I" } : Jvm.MethodName)) ∈ TBL := mT (List.mem_append_right _ (List.mem_append_left _ (List.mem_of_getElem? (i := 225) rfl))) (by decide +kernel)
theorem m_466 : (Jvm.Cond.selects "RuleClasses" ({ cls := "RuleClasses", name := "make", desc := "(I)I" } : Jvm.MethodName) ({ cls := "RuleClasses", name := "make", desc := "(I)I" } : Jvm.MethodName)) ∈ TBL := mT (List.mem_append_right _ (List.mem_append_left _ (List.mem_of_getElem? (i := 226) rfl))) (by decide +kernel)
theorem m_467 : (Jvm.Cond.code ({ cls := "RuleClasses", name := "make", desc := "(I)I" } : Jvm.MethodName) prog_1_method_5_code (3 : Nat) (Option.some Jvm.ClassFile.FieldType.int)) ∈ TBL := mT (List.mem_append_right _ (List.mem_append_left _ (List.mem_of_getElem? (i := 227) rfl))) (by decide +kernel)
theorem m_468 : (Jvm.Cond.methodLink "RuleClasses" (120 : Nat) ({ cls := "RuleClasses$Run", name := "start", desc := "(LRuleClasses$Edition;LRuleClasses$Facts;)V" } : Jvm.MethodName)) ∈ TBL := mT (List.mem_append_right _ (List.mem_append_left _ (List.mem_of_getElem? (i := 228) rfl))) (by decide +kernel)
theorem m_469 : (Jvm.Cond.instanceMethod ({ cls := "RuleClasses$Run", name := "start", desc := "(LRuleClasses$Edition;LRuleClasses$Facts;)V" } : Jvm.MethodName)) ∈ TBL := mT (List.mem_append_right _ (List.mem_append_left _ (List.mem_of_getElem? (i := 229) rfl))) (by decide +kernel)
theorem m_470 : (Jvm.Cond.selects "RuleClasses$Run" ({ cls := "RuleClasses$Run", name := "start", desc := "(LRuleClasses$Edition;LRuleClasses$Facts;)V" } : Jvm.MethodName) ({ cls := "RuleClasses$Run", name := "start", desc := "(LRuleClasses$Edition;LRuleClasses$Facts;)V" } : Jvm.MethodName)) ∈ TBL := mT (List.mem_append_right _ (List.mem_append_left _ (List.mem_of_getElem? (i := 230) rfl))) (by decide +kernel)
theorem m_471 : (Jvm.Cond.code ({ cls := "RuleClasses$Run", name := "start", desc := "(LRuleClasses$Edition;LRuleClasses$Facts;)V" } : Jvm.MethodName) prog_4_method_3_code (3 : Nat) (Option.none : Option Jvm.ClassFile.FieldType)) ∈ TBL := mT (List.mem_append_right _ (List.mem_append_left _ (List.mem_of_getElem? (i := 231) rfl))) (by decide +kernel)
theorem m_472 : (Jvm.Cond.methodLink "RuleClasses$Run" (19 : Nat) ({ cls := "RuleClasses$Run", name := "clear", desc := "()V" } : Jvm.MethodName)) ∈ TBL := mT (List.mem_append_right _ (List.mem_append_left _ (List.mem_of_getElem? (i := 232) rfl))) (by decide +kernel)
theorem m_474 : (Jvm.Cond.instanceMethod ({ cls := "RuleClasses$Run", name := "clear", desc := "()V" } : Jvm.MethodName)) ∈ TBL := mT (List.mem_append_right _ (List.mem_append_left _ (List.mem_of_getElem? (i := 234) rfl))) (by decide +kernel)
theorem m_475 : (Jvm.Cond.code ({ cls := "RuleClasses$Run", name := "clear", desc := "()V" } : Jvm.MethodName) prog_4_method_5_code (1 : Nat) (Option.none : Option Jvm.ClassFile.FieldType)) ∈ TBL := mT (List.mem_append_right _ (List.mem_append_left _ (List.mem_of_getElem? (i := 235) rfl))) (by decide +kernel)
theorem m_476 : (Jvm.Cond.methodLink "RuleClasses$Run" (25 : Nat) ({ cls := "RuleClasses$Run", name := "outcomeOf", desc := "(LRuleClasses$Edition;LRuleClasses$Facts;)I" } : Jvm.MethodName)) ∈ TBL := mT (List.mem_append_right _ (List.mem_append_left _ (List.mem_of_getElem? (i := 236) rfl))) (by decide +kernel)
theorem m_478 : (Jvm.Cond.instanceMethod ({ cls := "RuleClasses$Run", name := "outcomeOf", desc := "(LRuleClasses$Edition;LRuleClasses$Facts;)I" } : Jvm.MethodName)) ∈ TBL := mT (List.mem_append_right _ (List.mem_append_left _ (List.mem_of_getElem? (i := 238) rfl))) (by decide +kernel)
theorem m_479 : (Jvm.Cond.code ({ cls := "RuleClasses$Run", name := "outcomeOf", desc := "(LRuleClasses$Edition;LRuleClasses$Facts;)I" } : Jvm.MethodName) prog_4_method_6_code (6 : Nat) (Option.some Jvm.ClassFile.FieldType.int)) ∈ TBL := mT (List.mem_append_right _ (List.mem_append_left _ (List.mem_of_getElem? (i := 239) rfl))) (by decide +kernel)
theorem m_480 : (Jvm.Cond.methodLink "RuleClasses$Run" (46 : Nat) ({ cls := "RuleClasses$Run", name := "step", desc := "(LRuleClasses$Edition;ILRuleClasses$Facts;)I" } : Jvm.MethodName)) ∈ TBL := mT (List.mem_append_right _ (List.mem_append_right _ (List.mem_append_left _ (List.mem_of_getElem? (i := 0) rfl)))) (by decide +kernel)
theorem m_482 : (Jvm.Cond.instanceMethod ({ cls := "RuleClasses$Run", name := "step", desc := "(LRuleClasses$Edition;ILRuleClasses$Facts;)I" } : Jvm.MethodName)) ∈ TBL := mT (List.mem_append_right _ (List.mem_append_right _ (List.mem_append_left _ (List.mem_of_getElem? (i := 2) rfl)))) (by decide +kernel)
theorem m_483 : (Jvm.Cond.code ({ cls := "RuleClasses$Run", name := "step", desc := "(LRuleClasses$Edition;ILRuleClasses$Facts;)I" } : Jvm.MethodName) prog_4_method_7_code (6 : Nat) (Option.some Jvm.ClassFile.FieldType.int)) ∈ TBL := mT (List.mem_append_right _ (List.mem_append_right _ (List.mem_append_left _ (List.mem_of_getElem? (i := 3) rfl)))) (by decide +kernel)
theorem m_484 : (Jvm.Cond.methodLink "RuleClasses$Run" (56 : Nat) ({ cls := "RuleClasses$Run", name := "needed", desc := "(I)I" } : Jvm.MethodName)) ∈ TBL := mT (List.mem_append_right _ (List.mem_append_right _ (List.mem_append_left _ (List.mem_of_getElem? (i := 4) rfl)))) (by decide +kernel)
theorem m_485 : (Jvm.Cond.static ({ cls := "RuleClasses$Run", name := "needed", desc := "(I)I" } : Jvm.MethodName)) ∈ TBL := mT (List.mem_append_right _ (List.mem_append_right _ (List.mem_append_left _ (List.mem_of_getElem? (i := 5) rfl)))) (by decide +kernel)
theorem m_486 : (Jvm.Cond.code ({ cls := "RuleClasses$Run", name := "needed", desc := "(I)I" } : Jvm.MethodName) prog_4_method_8_code (1 : Nat) (Option.some Jvm.ClassFile.FieldType.int)) ∈ TBL := mT (List.mem_append_right _ (List.mem_append_right _ (List.mem_append_left _ (List.mem_of_getElem? (i := 6) rfl)))) (by decide +kernel)
theorem m_487 : (Jvm.Cond.methodLink "RuleClasses$Run" (60 : Nat) ({ cls := "RuleClasses$Run", name := "put", desc := "(J)I" } : Jvm.MethodName)) ∈ TBL := mT (List.mem_append_right _ (List.mem_append_right _ (List.mem_append_left _ (List.mem_of_getElem? (i := 7) rfl)))) (by decide +kernel)
theorem m_489 : (Jvm.Cond.instanceMethod ({ cls := "RuleClasses$Run", name := "put", desc := "(J)I" } : Jvm.MethodName)) ∈ TBL := mT (List.mem_append_right _ (List.mem_append_right _ (List.mem_append_left _ (List.mem_of_getElem? (i := 9) rfl)))) (by decide +kernel)
theorem m_490 : (Jvm.Cond.code ({ cls := "RuleClasses$Run", name := "put", desc := "(J)I" } : Jvm.MethodName) prog_4_method_11_code (3 : Nat) (Option.some Jvm.ClassFile.FieldType.int)) ∈ TBL := mT (List.mem_append_right _ (List.mem_append_right _ (List.mem_append_left _ (List.mem_of_getElem? (i := 10) rfl)))) (by decide +kernel)
theorem m_491 : (Jvm.Cond.constantLong "RuleClasses$Run" (79 : Nat) (-1000000000 : Int64)) ∈ TBL := mT (List.mem_append_right _ (List.mem_append_right _ (List.mem_append_left _ (List.mem_of_getElem? (i := 11) rfl)))) (by decide +kernel)
theorem m_492 : (Jvm.Cond.constantLong "RuleClasses$Run" (81 : Nat) (1000000000 : Int64)) ∈ TBL := mT (List.mem_append_right _ (List.mem_append_right _ (List.mem_append_left _ (List.mem_of_getElem? (i := 12) rfl)))) (by decide +kernel)
theorem m_493 : (Jvm.Cond.methodLink "RuleClasses$Run" (72 : Nat) ({ cls := "RuleClasses$Run", name := "take", desc := "()I" } : Jvm.MethodName)) ∈ TBL := mT (List.mem_append_right _ (List.mem_append_right _ (List.mem_append_left _ (List.mem_of_getElem? (i := 13) rfl)))) (by decide +kernel)
theorem m_495 : (Jvm.Cond.instanceMethod ({ cls := "RuleClasses$Run", name := "take", desc := "()I" } : Jvm.MethodName)) ∈ TBL := mT (List.mem_append_right _ (List.mem_append_right _ (List.mem_append_left _ (List.mem_of_getElem? (i := 15) rfl)))) (by decide +kernel)
theorem m_496 : (Jvm.Cond.code ({ cls := "RuleClasses$Run", name := "take", desc := "()I" } : Jvm.MethodName) prog_4_method_10_code (1 : Nat) (Option.some Jvm.ClassFile.FieldType.int)) ∈ TBL := mT (List.mem_append_right _ (List.mem_append_right _ (List.mem_append_left _ (List.mem_of_getElem? (i := 16) rfl)))) (by decide +kernel)
theorem m_497 : (Jvm.Cond.methodLink "RuleClasses$Run" (76 : Nat) ({ cls := "RuleClasses$Run", name := "join", desc := "(I)I" } : Jvm.MethodName)) ∈ TBL := mT (List.mem_append_right _ (List.mem_append_right _ (List.mem_append_left _ (List.mem_of_getElem? (i := 17) rfl)))) (by decide +kernel)
theorem m_499 : (Jvm.Cond.instanceMethod ({ cls := "RuleClasses$Run", name := "join", desc := "(I)I" } : Jvm.MethodName)) ∈ TBL := mT (List.mem_append_right _ (List.mem_append_right _ (List.mem_append_left _ (List.mem_of_getElem? (i := 19) rfl)))) (by decide +kernel)
theorem m_500 : (Jvm.Cond.code ({ cls := "RuleClasses$Run", name := "join", desc := "(I)I" } : Jvm.MethodName) prog_4_method_9_code (6 : Nat) (Option.some Jvm.ClassFile.FieldType.int)) ∈ TBL := mT (List.mem_append_right _ (List.mem_append_right _ (List.mem_append_left _ (List.mem_of_getElem? (i := 20) rfl)))) (by decide +kernel)
theorem m_501 : (Jvm.Cond.methodLink "RuleClassesLaw" (107 : Nat) ({ cls := "RuleClassesLaw", name := "fact", desc := "(LRuleClasses;II)I" } : Jvm.MethodName)) ∈ TBL := mT (List.mem_append_right _ (List.mem_append_right _ (List.mem_append_left _ (List.mem_of_getElem? (i := 21) rfl)))) (by decide +kernel)
theorem m_502 : (Jvm.Cond.static ({ cls := "RuleClassesLaw", name := "fact", desc := "(LRuleClasses;II)I" } : Jvm.MethodName)) ∈ TBL := mT (List.mem_append_right _ (List.mem_append_right _ (List.mem_append_left _ (List.mem_of_getElem? (i := 22) rfl)))) (by decide +kernel)
theorem m_503 : (Jvm.Cond.codeWith ({ cls := "RuleClassesLaw", name := "fact", desc := "(LRuleClasses;II)I" } : Jvm.MethodName) method_7_code (4 : Nat) (Option.some Jvm.ClassFile.FieldType.int) [((0 : Nat), (6 : Nat), (9 : Nat), (13 : Nat))]) ∈ TBL := mT (List.mem_append_right _ (List.mem_append_right _ (List.mem_append_left _ (List.mem_of_getElem? (i := 23) rfl)))) (by decide +kernel)
theorem m_504 : (Jvm.Cond.methodLink "RuleClassesLaw" (32 : Nat) ({ cls := "RuleClasses", name := "fact", desc := "(II)V" } : Jvm.MethodName)) ∈ TBL := mT (List.mem_append_right _ (List.mem_append_right _ (List.mem_append_left _ (List.mem_of_getElem? (i := 24) rfl)))) (by decide +kernel)
theorem m_505 : (Jvm.Cond.instanceMethod ({ cls := "RuleClasses", name := "fact", desc := "(II)V" } : Jvm.MethodName)) ∈ TBL := mT (List.mem_append_right _ (List.mem_append_right _ (List.mem_append_left _ (List.mem_of_getElem? (i := 25) rfl)))) (by decide +kernel)
theorem m_506 : (Jvm.Cond.selects "RuleClasses" ({ cls := "RuleClasses", name := "fact", desc := "(II)V" } : Jvm.MethodName) ({ cls := "RuleClasses", name := "fact", desc := "(II)V" } : Jvm.MethodName)) ∈ TBL := mT (List.mem_append_right _ (List.mem_append_right _ (List.mem_append_left _ (List.mem_of_getElem? (i := 26) rfl)))) (by decide +kernel)
theorem m_507 : (Jvm.Cond.code ({ cls := "RuleClasses", name := "fact", desc := "(II)V" } : Jvm.MethodName) prog_1_method_6_code (3 : Nat) (Option.none : Option Jvm.ClassFile.FieldType)) ∈ TBL := mT (List.mem_append_right _ (List.mem_append_right _ (List.mem_append_left _ (List.mem_of_getElem? (i := 27) rfl)))) (by decide +kernel)
theorem m_508 : (Jvm.Cond.methodLink "RuleClassesLaw" (111 : Nat) ({ cls := "RuleClassesLaw", name := "ask", desc := "(LRuleClasses;II[J)I" } : Jvm.MethodName)) ∈ TBL := mT (List.mem_append_right _ (List.mem_append_right _ (List.mem_append_left _ (List.mem_of_getElem? (i := 28) rfl)))) (by decide +kernel)
theorem m_509 : (Jvm.Cond.static ({ cls := "RuleClassesLaw", name := "ask", desc := "(LRuleClasses;II[J)I" } : Jvm.MethodName)) ∈ TBL := mT (List.mem_append_right _ (List.mem_append_right _ (List.mem_append_left _ (List.mem_of_getElem? (i := 29) rfl)))) (by decide +kernel)
theorem m_510 : (Jvm.Cond.codeWith ({ cls := "RuleClassesLaw", name := "ask", desc := "(LRuleClasses;II[J)I" } : Jvm.MethodName) method_8_code (5 : Nat) (Option.some Jvm.ClassFile.FieldType.int) [((0 : Nat), (10 : Nat), (13 : Nat), (13 : Nat))]) ∈ TBL := mT (List.mem_append_right _ (List.mem_append_right _ (List.mem_append_left _ (List.mem_of_getElem? (i := 30) rfl)))) (by decide +kernel)
theorem m_511 : (Jvm.Cond.methodLink "RuleClassesLaw" (36 : Nat) ({ cls := "RuleClasses", name := "ask", desc := "(II)I" } : Jvm.MethodName)) ∈ TBL := mT (List.mem_append_right _ (List.mem_append_right _ (List.mem_append_left _ (List.mem_of_getElem? (i := 31) rfl)))) (by decide +kernel)
theorem m_512 : (Jvm.Cond.instanceMethod ({ cls := "RuleClasses", name := "ask", desc := "(II)I" } : Jvm.MethodName)) ∈ TBL := mT (List.mem_append_right _ (List.mem_append_right _ (List.mem_append_left _ (List.mem_of_getElem? (i := 32) rfl)))) (by decide +kernel)
theorem m_513 : (Jvm.Cond.selects "RuleClasses" ({ cls := "RuleClasses", name := "ask", desc := "(II)I" } : Jvm.MethodName) ({ cls := "RuleClasses", name := "ask", desc := "(II)I" } : Jvm.MethodName)) ∈ TBL := mT (List.mem_append_right _ (List.mem_append_right _ (List.mem_append_left _ (List.mem_of_getElem? (i := 33) rfl)))) (by decide +kernel)
theorem m_514 : (Jvm.Cond.code ({ cls := "RuleClasses", name := "ask", desc := "(II)I" } : Jvm.MethodName) prog_1_method_7_code (4 : Nat) (Option.some Jvm.ClassFile.FieldType.int)) ∈ TBL := mT (List.mem_append_right _ (List.mem_append_right _ (List.mem_append_left _ (List.mem_of_getElem? (i := 34) rfl)))) (by decide +kernel)
theorem m_515 : (Jvm.Cond.methodLink "RuleClasses" (137 : Nat) ({ cls := "RuleClasses", name := "countingEdition", desc := "(III)I" } : Jvm.MethodName)) ∈ TBL := mT (List.mem_append_right _ (List.mem_append_right _ (List.mem_append_left _ (List.mem_of_getElem? (i := 35) rfl)))) (by decide +kernel)
theorem m_517 : (Jvm.Cond.instanceMethod ({ cls := "RuleClasses", name := "countingEdition", desc := "(III)I" } : Jvm.MethodName)) ∈ TBL := mT (List.mem_append_right _ (List.mem_append_right _ (List.mem_append_left _ (List.mem_of_getElem? (i := 37) rfl)))) (by decide +kernel)
theorem m_518 : (Jvm.Cond.code ({ cls := "RuleClasses", name := "countingEdition", desc := "(III)I" } : Jvm.MethodName) prog_1_method_30_code (8 : Nat) (Option.some Jvm.ClassFile.FieldType.int)) ∈ TBL := mT (List.mem_append_right _ (List.mem_append_right _ (List.mem_append_left _ (List.mem_of_getElem? (i := 38) rfl)))) (by decide +kernel)
theorem m_519 : (Jvm.Cond.methodLink "RuleClasses" (225 : Nat) ({ cls := "RuleClasses$Edition", name := "countsFor", desc := "(III)Z" } : Jvm.MethodName)) ∈ TBL := mT (List.mem_append_right _ (List.mem_append_right _ (List.mem_append_left _ (List.mem_of_getElem? (i := 39) rfl)))) (by decide +kernel)
theorem m_520 : (Jvm.Cond.instanceMethod ({ cls := "RuleClasses$Edition", name := "countsFor", desc := "(III)Z" } : Jvm.MethodName)) ∈ TBL := mT (List.mem_append_right _ (List.mem_append_right _ (List.mem_append_left _ (List.mem_of_getElem? (i := 40) rfl)))) (by decide +kernel)
theorem m_521 : (Jvm.Cond.selects "RuleClasses$Edition" ({ cls := "RuleClasses$Edition", name := "countsFor", desc := "(III)Z" } : Jvm.MethodName) ({ cls := "RuleClasses$Edition", name := "countsFor", desc := "(III)Z" } : Jvm.MethodName)) ∈ TBL := mT (List.mem_append_right _ (List.mem_append_right _ (List.mem_append_left _ (List.mem_of_getElem? (i := 41) rfl)))) (by decide +kernel)
theorem m_522 : (Jvm.Cond.code ({ cls := "RuleClasses$Edition", name := "countsFor", desc := "(III)Z" } : Jvm.MethodName) prog_2_method_3_code (4 : Nat) (Option.some Jvm.ClassFile.FieldType.boolean)) ∈ TBL := mT (List.mem_append_right _ (List.mem_append_right _ (List.mem_append_left _ (List.mem_of_getElem? (i := 42) rfl)))) (by decide +kernel)
theorem m_523 : (Jvm.Cond.methodLink "RuleClasses" (141 : Nat) ({ cls := "RuleClasses$Run", name := "startNothing", desc := "()V" } : Jvm.MethodName)) ∈ TBL := mT (List.mem_append_right _ (List.mem_append_right _ (List.mem_append_left _ (List.mem_of_getElem? (i := 43) rfl)))) (by decide +kernel)
theorem m_524 : (Jvm.Cond.instanceMethod ({ cls := "RuleClasses$Run", name := "startNothing", desc := "()V" } : Jvm.MethodName)) ∈ TBL := mT (List.mem_append_right _ (List.mem_append_right _ (List.mem_append_left _ (List.mem_of_getElem? (i := 44) rfl)))) (by decide +kernel)
theorem m_525 : (Jvm.Cond.selects "RuleClasses$Run" ({ cls := "RuleClasses$Run", name := "startNothing", desc := "()V" } : Jvm.MethodName) ({ cls := "RuleClasses$Run", name := "startNothing", desc := "()V" } : Jvm.MethodName)) ∈ TBL := mT (List.mem_append_right _ (List.mem_append_right _ (List.mem_append_left _ (List.mem_of_getElem? (i := 45) rfl)))) (by decide +kernel)
theorem m_526 : (Jvm.Cond.code ({ cls := "RuleClasses$Run", name := "startNothing", desc := "()V" } : Jvm.MethodName) prog_4_method_2_code (1 : Nat) (Option.none : Option Jvm.ClassFile.FieldType)) ∈ TBL := mT (List.mem_append_right _ (List.mem_append_right _ (List.mem_append_left _ (List.mem_of_getElem? (i := 46) rfl)))) (by decide +kernel)
theorem m_527 : (Jvm.Cond.methodLink "RuleClasses" (148 : Nat) ({ cls := "RuleClasses", name := "place", desc := "(II)I" } : Jvm.MethodName)) ∈ TBL := mT (List.mem_append_right _ (List.mem_append_right _ (List.mem_append_left _ (List.mem_of_getElem? (i := 47) rfl)))) (by decide +kernel)
theorem m_528 : (Jvm.Cond.static ({ cls := "RuleClasses", name := "place", desc := "(II)I" } : Jvm.MethodName)) ∈ TBL := mT (List.mem_append_right _ (List.mem_append_right _ (List.mem_append_left _ (List.mem_of_getElem? (i := 48) rfl)))) (by decide +kernel)
theorem m_529 : (Jvm.Cond.code ({ cls := "RuleClasses", name := "place", desc := "(II)I" } : Jvm.MethodName) prog_1_method_28_code (2 : Nat) (Option.some Jvm.ClassFile.FieldType.int)) ∈ TBL := mT (List.mem_append_right _ (List.mem_append_right _ (List.mem_append_left _ (List.mem_of_getElem? (i := 49) rfl)))) (by decide +kernel)
theorem m_530 : (Jvm.Cond.methodLink "RuleClasses" (151 : Nat) ({ cls := "RuleClasses", name := "runShadow", desc := "(I)V" } : Jvm.MethodName)) ∈ TBL := mT (List.mem_append_right _ (List.mem_append_right _ (List.mem_append_left _ (List.mem_of_getElem? (i := 50) rfl)))) (by decide +kernel)
theorem m_532 : (Jvm.Cond.instanceMethod ({ cls := "RuleClasses", name := "runShadow", desc := "(I)V" } : Jvm.MethodName)) ∈ TBL := mT (List.mem_append_right _ (List.mem_append_right _ (List.mem_append_left _ (List.mem_of_getElem? (i := 52) rfl)))) (by decide +kernel)
theorem m_533 : (Jvm.Cond.code ({ cls := "RuleClasses", name := "runShadow", desc := "(I)V" } : Jvm.MethodName) prog_1_method_31_code (3 : Nat) (Option.none : Option Jvm.ClassFile.FieldType)) ∈ TBL := mT (List.mem_append_right _ (List.mem_append_right _ (List.mem_append_left _ (List.mem_of_getElem? (i := 53) rfl)))) (by decide +kernel)
theorem m_534 : (Jvm.Cond.methodLink "RuleClasses" (188 : Nat) ({ cls := "RuleClasses$Run", name := "endedLike", desc := "(LRuleClasses$Run;)Z" } : Jvm.MethodName)) ∈ TBL := mT (List.mem_append_right _ (List.mem_append_right _ (List.mem_append_left _ (List.mem_of_getElem? (i := 54) rfl)))) (by decide +kernel)
theorem m_535 : (Jvm.Cond.instanceMethod ({ cls := "RuleClasses$Run", name := "endedLike", desc := "(LRuleClasses$Run;)Z" } : Jvm.MethodName)) ∈ TBL := mT (List.mem_append_right _ (List.mem_append_right _ (List.mem_append_left _ (List.mem_of_getElem? (i := 55) rfl)))) (by decide +kernel)
theorem m_536 : (Jvm.Cond.selects "RuleClasses$Run" ({ cls := "RuleClasses$Run", name := "endedLike", desc := "(LRuleClasses$Run;)Z" } : Jvm.MethodName) ({ cls := "RuleClasses$Run", name := "endedLike", desc := "(LRuleClasses$Run;)Z" } : Jvm.MethodName)) ∈ TBL := mT (List.mem_append_right _ (List.mem_append_right _ (List.mem_append_left _ (List.mem_of_getElem? (i := 56) rfl)))) (by decide +kernel)
theorem m_537 : (Jvm.Cond.code ({ cls := "RuleClasses$Run", name := "endedLike", desc := "(LRuleClasses$Run;)Z" } : Jvm.MethodName) prog_4_method_4_code (2 : Nat) (Option.some Jvm.ClassFile.FieldType.boolean)) ∈ TBL := mT (List.mem_append_right _ (List.mem_append_right _ (List.mem_append_left _ (List.mem_of_getElem? (i := 57) rfl)))) (by decide +kernel)
theorem m_538 : (Jvm.Cond.methodLink "RuleClasses" (154 : Nat) ({ cls := "RuleClasses$Edition", name := "noteQuestion", desc := "(LRuleClasses$Run;)V" } : Jvm.MethodName)) ∈ TBL := mT (List.mem_append_right _ (List.mem_append_right _ (List.mem_append_left _ (List.mem_of_getElem? (i := 58) rfl)))) (by decide +kernel)
theorem m_539 : (Jvm.Cond.instanceMethod ({ cls := "RuleClasses$Edition", name := "noteQuestion", desc := "(LRuleClasses$Run;)V" } : Jvm.MethodName)) ∈ TBL := mT (List.mem_append_right _ (List.mem_append_right _ (List.mem_append_left _ (List.mem_of_getElem? (i := 59) rfl)))) (by decide +kernel)
theorem m_540 : (Jvm.Cond.selects "RuleClasses$Edition" ({ cls := "RuleClasses$Edition", name := "noteQuestion", desc := "(LRuleClasses$Run;)V" } : Jvm.MethodName) ({ cls := "RuleClasses$Edition", name := "noteQuestion", desc := "(LRuleClasses$Run;)V" } : Jvm.MethodName)) ∈ TBL := mT (List.mem_append_right _ (List.mem_append_right _ (List.mem_append_left _ (List.mem_of_getElem? (i := 60) rfl)))) (by decide +kernel)
theorem m_541 : (Jvm.Cond.code ({ cls := "RuleClasses$Edition", name := "noteQuestion", desc := "(LRuleClasses$Run;)V" } : Jvm.MethodName) prog_2_method_5_code (2 : Nat) (Option.none : Option Jvm.ClassFile.FieldType)) ∈ TBL := mT (List.mem_append_right _ (List.mem_append_right _ (List.mem_append_left _ (List.mem_of_getElem? (i := 61) rfl)))) (by decide +kernel)
theorem m_542 : (Jvm.Cond.methodLink "RuleClassesLaw" (115 : Nat) ({ cls := "RuleClassesLaw", name := "fallback", desc := "(LRuleClasses;II)I" } : Jvm.MethodName)) ∈ TBL := mT (List.mem_append_right _ (List.mem_append_right _ (List.mem_append_left _ (List.mem_of_getElem? (i := 62) rfl)))) (by decide +kernel)
theorem m_543 : (Jvm.Cond.static ({ cls := "RuleClassesLaw", name := "fallback", desc := "(LRuleClasses;II)I" } : Jvm.MethodName)) ∈ TBL := mT (List.mem_append_right _ (List.mem_append_right _ (List.mem_append_left _ (List.mem_of_getElem? (i := 63) rfl)))) (by decide +kernel)
theorem m_544 : (Jvm.Cond.codeWith ({ cls := "RuleClassesLaw", name := "fallback", desc := "(LRuleClasses;II)I" } : Jvm.MethodName) method_9_code (4 : Nat) (Option.some Jvm.ClassFile.FieldType.int) [((0 : Nat), (6 : Nat), (9 : Nat), (13 : Nat))]) ∈ TBL := mT (List.mem_append_right _ (List.mem_append_right _ (List.mem_append_left _ (List.mem_of_getElem? (i := 64) rfl)))) (by decide +kernel)
theorem m_545 : (Jvm.Cond.methodLink "RuleClassesLaw" (40 : Nat) ({ cls := "RuleClasses", name := "fallback", desc := "(II)V" } : Jvm.MethodName)) ∈ TBL := mT (List.mem_append_right _ (List.mem_append_right _ (List.mem_append_left _ (List.mem_of_getElem? (i := 65) rfl)))) (by decide +kernel)
theorem m_546 : (Jvm.Cond.instanceMethod ({ cls := "RuleClasses", name := "fallback", desc := "(II)V" } : Jvm.MethodName)) ∈ TBL := mT (List.mem_append_right _ (List.mem_append_right _ (List.mem_append_left _ (List.mem_of_getElem? (i := 66) rfl)))) (by decide +kernel)
theorem m_547 : (Jvm.Cond.selects "RuleClasses" ({ cls := "RuleClasses", name := "fallback", desc := "(II)V" } : Jvm.MethodName) ({ cls := "RuleClasses", name := "fallback", desc := "(II)V" } : Jvm.MethodName)) ∈ TBL := mT (List.mem_append_right _ (List.mem_append_right _ (List.mem_append_left _ (List.mem_of_getElem? (i := 67) rfl)))) (by decide +kernel)
theorem m_548 : (Jvm.Cond.code ({ cls := "RuleClasses", name := "fallback", desc := "(II)V" } : Jvm.MethodName) prog_1_method_8_code (3 : Nat) (Option.none : Option Jvm.ClassFile.FieldType)) ∈ TBL := mT (List.mem_append_right _ (List.mem_append_right _ (List.mem_append_left _ (List.mem_of_getElem? (i := 68) rfl)))) (by decide +kernel)
theorem m_549 : (Jvm.Cond.methodLink "RuleClassesLaw" (118 : Nat) ({ cls := "RuleClassesLaw", name := "edition", desc := "(LRuleClasses;III[J)I" } : Jvm.MethodName)) ∈ TBL := mT (List.mem_append_right _ (List.mem_append_right _ (List.mem_append_left _ (List.mem_of_getElem? (i := 69) rfl)))) (by decide +kernel)
theorem m_550 : (Jvm.Cond.static ({ cls := "RuleClassesLaw", name := "edition", desc := "(LRuleClasses;III[J)I" } : Jvm.MethodName)) ∈ TBL := mT (List.mem_append_right _ (List.mem_append_right _ (List.mem_append_left _ (List.mem_of_getElem? (i := 70) rfl)))) (by decide +kernel)
theorem m_551 : (Jvm.Cond.codeWith ({ cls := "RuleClassesLaw", name := "edition", desc := "(LRuleClasses;III[J)I" } : Jvm.MethodName) method_10_code (6 : Nat) (Option.some Jvm.ClassFile.FieldType.int) [((0 : Nat), (12 : Nat), (15 : Nat), (13 : Nat))]) ∈ TBL := mT (List.mem_append_right _ (List.mem_append_right _ (List.mem_append_left _ (List.mem_of_getElem? (i := 71) rfl)))) (by decide +kernel)
theorem m_552 : (Jvm.Cond.methodLink "RuleClassesLaw" (43 : Nat) ({ cls := "RuleClasses", name := "edition", desc := "(III)I" } : Jvm.MethodName)) ∈ TBL := mT (List.mem_append_right _ (List.mem_append_right _ (List.mem_append_left _ (List.mem_of_getElem? (i := 72) rfl)))) (by decide +kernel)
theorem m_553 : (Jvm.Cond.instanceMethod ({ cls := "RuleClasses", name := "edition", desc := "(III)I" } : Jvm.MethodName)) ∈ TBL := mT (List.mem_append_right _ (List.mem_append_right _ (List.mem_append_left _ (List.mem_of_getElem? (i := 73) rfl)))) (by decide +kernel)
theorem m_554 : (Jvm.Cond.selects "RuleClasses" ({ cls := "RuleClasses", name := "edition", desc := "(III)I" } : Jvm.MethodName) ({ cls := "RuleClasses", name := "edition", desc := "(III)I" } : Jvm.MethodName)) ∈ TBL := mT (List.mem_append_right _ (List.mem_append_right _ (List.mem_append_left _ (List.mem_of_getElem? (i := 74) rfl)))) (by decide +kernel)
theorem m_555 : (Jvm.Cond.code ({ cls := "RuleClasses", name := "edition", desc := "(III)I" } : Jvm.MethodName) prog_1_method_9_code (4 : Nat) (Option.some Jvm.ClassFile.FieldType.int)) ∈ TBL := mT (List.mem_append_right _ (List.mem_append_right _ (List.mem_append_left _ (List.mem_of_getElem? (i := 75) rfl)))) (by decide +kernel)
theorem m_556 : (Jvm.Cond.methodLink "RuleClassesLaw" (121 : Nat) ({ cls := "RuleClassesLaw", name := "failed", desc := "(LRuleClasses;II[J)I" } : Jvm.MethodName)) ∈ TBL := mT (List.mem_append_right _ (List.mem_append_right _ (List.mem_append_left _ (List.mem_of_getElem? (i := 76) rfl)))) (by decide +kernel)
theorem m_557 : (Jvm.Cond.static ({ cls := "RuleClassesLaw", name := "failed", desc := "(LRuleClasses;II[J)I" } : Jvm.MethodName)) ∈ TBL := mT (List.mem_append_right _ (List.mem_append_right _ (List.mem_append_left _ (List.mem_of_getElem? (i := 77) rfl)))) (by decide +kernel)
theorem m_558 : (Jvm.Cond.codeWith ({ cls := "RuleClassesLaw", name := "failed", desc := "(LRuleClasses;II[J)I" } : Jvm.MethodName) method_11_code (5 : Nat) (Option.some Jvm.ClassFile.FieldType.int) [((0 : Nat), (10 : Nat), (13 : Nat), (13 : Nat))]) ∈ TBL := mT (List.mem_append_right _ (List.mem_append_right _ (List.mem_append_left _ (List.mem_of_getElem? (i := 78) rfl)))) (by decide +kernel)
theorem m_559 : (Jvm.Cond.methodLink "RuleClassesLaw" (46 : Nat) ({ cls := "RuleClasses", name := "failed", desc := "(II)I" } : Jvm.MethodName)) ∈ TBL := mT (List.mem_append_right _ (List.mem_append_right _ (List.mem_append_left _ (List.mem_of_getElem? (i := 79) rfl)))) (by decide +kernel)
theorem m_560 : (Jvm.Cond.instanceMethod ({ cls := "RuleClasses", name := "failed", desc := "(II)I" } : Jvm.MethodName)) ∈ TBL := mT (List.mem_append_right _ (List.mem_append_right _ (List.mem_append_left _ (List.mem_of_getElem? (i := 80) rfl)))) (by decide +kernel)
theorem m_561 : (Jvm.Cond.selects "RuleClasses" ({ cls := "RuleClasses", name := "failed", desc := "(II)I" } : Jvm.MethodName) ({ cls := "RuleClasses", name := "failed", desc := "(II)I" } : Jvm.MethodName)) ∈ TBL := mT (List.mem_append_right _ (List.mem_append_right _ (List.mem_append_left _ (List.mem_of_getElem? (i := 81) rfl)))) (by decide +kernel)
theorem m_562 : (Jvm.Cond.code ({ cls := "RuleClasses", name := "failed", desc := "(II)I" } : Jvm.MethodName) prog_1_method_10_code (3 : Nat) (Option.some Jvm.ClassFile.FieldType.int)) ∈ TBL := mT (List.mem_append_right _ (List.mem_append_right _ (List.mem_append_left _ (List.mem_of_getElem? (i := 82) rfl)))) (by decide +kernel)
theorem m_563 : (Jvm.Cond.methodLink "RuleClassesLaw" (124 : Nat) ({ cls := "RuleClassesLaw", name := "handle", desc := "(LRuleClasses;I[J)I" } : Jvm.MethodName)) ∈ TBL := mT (List.mem_append_right _ (List.mem_append_right _ (List.mem_append_left _ (List.mem_of_getElem? (i := 83) rfl)))) (by decide +kernel)
theorem m_564 : (Jvm.Cond.static ({ cls := "RuleClassesLaw", name := "handle", desc := "(LRuleClasses;I[J)I" } : Jvm.MethodName)) ∈ TBL := mT (List.mem_append_right _ (List.mem_append_right _ (List.mem_append_left _ (List.mem_of_getElem? (i := 84) rfl)))) (by decide +kernel)
theorem m_565 : (Jvm.Cond.codeWith ({ cls := "RuleClassesLaw", name := "handle", desc := "(LRuleClasses;I[J)I" } : Jvm.MethodName) method_12_code (4 : Nat) (Option.some Jvm.ClassFile.FieldType.int) [((0 : Nat), (9 : Nat), (12 : Nat), (24 : Nat)), ((0 : Nat), (9 : Nat), (15 : Nat), (26 : Nat)), ((0 : Nat), (9 : Nat), (18 : Nat), (19 : Nat))]) ∈ TBL := mT (List.mem_append_right _ (List.mem_append_right _ (List.mem_append_left _ (List.mem_of_getElem? (i := 85) rfl)))) (by decide +kernel)
theorem m_566 : (Jvm.Cond.methodLink "RuleClassesLaw" (49 : Nat) ({ cls := "RuleClasses", name := "handle", desc := "(I)I" } : Jvm.MethodName)) ∈ TBL := mT (List.mem_append_right _ (List.mem_append_right _ (List.mem_append_left _ (List.mem_of_getElem? (i := 86) rfl)))) (by decide +kernel)
theorem m_567 : (Jvm.Cond.instanceMethod ({ cls := "RuleClasses", name := "handle", desc := "(I)I" } : Jvm.MethodName)) ∈ TBL := mT (List.mem_append_right _ (List.mem_append_right _ (List.mem_append_left _ (List.mem_of_getElem? (i := 87) rfl)))) (by decide +kernel)
theorem m_568 : (Jvm.Cond.selects "RuleClasses" ({ cls := "RuleClasses", name := "handle", desc := "(I)I" } : Jvm.MethodName) ({ cls := "RuleClasses", name := "handle", desc := "(I)I" } : Jvm.MethodName)) ∈ TBL := mT (List.mem_append_right _ (List.mem_append_right _ (List.mem_append_left _ (List.mem_of_getElem? (i := 88) rfl)))) (by decide +kernel)
theorem m_569 : (Jvm.Cond.code ({ cls := "RuleClasses", name := "handle", desc := "(I)I" } : Jvm.MethodName) prog_1_method_11_code (2 : Nat) (Option.some Jvm.ClassFile.FieldType.int)) ∈ TBL := mT (List.mem_append_right _ (List.mem_append_right _ (List.mem_append_left _ (List.mem_of_getElem? (i := 89) rfl)))) (by decide +kernel)
theorem m_572 : (Jvm.Cond.methodLink "RuleClassesLaw" (127 : Nat) ({ cls := "RuleClassesLaw", name := "by", desc := "(LRuleClasses;I[J)I" } : Jvm.MethodName)) ∈ TBL := mT (List.mem_append_right _ (List.mem_append_right _ (List.mem_append_left _ (List.mem_of_getElem? (i := 92) rfl)))) (by decide +kernel)
theorem m_573 : (Jvm.Cond.static ({ cls := "RuleClassesLaw", name := "by", desc := "(LRuleClasses;I[J)I" } : Jvm.MethodName)) ∈ TBL := mT (List.mem_append_right _ (List.mem_append_right _ (List.mem_append_left _ (List.mem_of_getElem? (i := 93) rfl)))) (by decide +kernel)
theorem m_574 : (Jvm.Cond.codeWith ({ cls := "RuleClassesLaw", name := "by", desc := "(LRuleClasses;I[J)I" } : Jvm.MethodName) method_13_code (4 : Nat) (Option.some Jvm.ClassFile.FieldType.int) [((0 : Nat), (9 : Nat), (12 : Nat), (13 : Nat)), ((0 : Nat), (9 : Nat), (15 : Nat), (26 : Nat))]) ∈ TBL := mT (List.mem_append_right _ (List.mem_append_right _ (List.mem_append_left _ (List.mem_of_getElem? (i := 94) rfl)))) (by decide +kernel)
theorem m_575 : (Jvm.Cond.methodLink "RuleClassesLaw" (52 : Nat) ({ cls := "RuleClasses", name := "by", desc := "(I)I" } : Jvm.MethodName)) ∈ TBL := mT (List.mem_append_right _ (List.mem_append_right _ (List.mem_append_left _ (List.mem_of_getElem? (i := 95) rfl)))) (by decide +kernel)
theorem m_576 : (Jvm.Cond.instanceMethod ({ cls := "RuleClasses", name := "by", desc := "(I)I" } : Jvm.MethodName)) ∈ TBL := mT (List.mem_append_right _ (List.mem_append_right _ (List.mem_append_left _ (List.mem_of_getElem? (i := 96) rfl)))) (by decide +kernel)
theorem m_577 : (Jvm.Cond.selects "RuleClasses" ({ cls := "RuleClasses", name := "by", desc := "(I)I" } : Jvm.MethodName) ({ cls := "RuleClasses", name := "by", desc := "(I)I" } : Jvm.MethodName)) ∈ TBL := mT (List.mem_append_right _ (List.mem_append_right _ (List.mem_append_left _ (List.mem_of_getElem? (i := 97) rfl)))) (by decide +kernel)
theorem m_578 : (Jvm.Cond.code ({ cls := "RuleClasses", name := "by", desc := "(I)I" } : Jvm.MethodName) prog_1_method_12_code (3 : Nat) (Option.some Jvm.ClassFile.FieldType.int)) ∈ TBL := mT (List.mem_append_right _ (List.mem_append_right _ (List.mem_append_left _ (List.mem_of_getElem? (i := 98) rfl)))) (by decide +kernel)
theorem m_580 : (Jvm.Cond.methodLink "RuleClassesLaw" (130 : Nat) ({ cls := "RuleClassesLaw", name := "keep", desc := "(LRuleClasses;[J)I" } : Jvm.MethodName)) ∈ TBL := mT (List.mem_append_right _ (List.mem_append_right _ (List.mem_append_left _ (List.mem_of_getElem? (i := 100) rfl)))) (by decide +kernel)
theorem m_581 : (Jvm.Cond.static ({ cls := "RuleClassesLaw", name := "keep", desc := "(LRuleClasses;[J)I" } : Jvm.MethodName)) ∈ TBL := mT (List.mem_append_right _ (List.mem_append_right _ (List.mem_append_left _ (List.mem_of_getElem? (i := 101) rfl)))) (by decide +kernel)
theorem m_582 : (Jvm.Cond.codeWith ({ cls := "RuleClassesLaw", name := "keep", desc := "(LRuleClasses;[J)I" } : Jvm.MethodName) method_14_code (3 : Nat) (Option.some Jvm.ClassFile.FieldType.int) [((0 : Nat), (8 : Nat), (11 : Nat), (19 : Nat))]) ∈ TBL := mT (List.mem_append_right _ (List.mem_append_right _ (List.mem_append_left _ (List.mem_of_getElem? (i := 102) rfl)))) (by decide +kernel)
theorem m_583 : (Jvm.Cond.methodLink "RuleClassesLaw" (55 : Nat) ({ cls := "RuleClasses", name := "keep", desc := "()I" } : Jvm.MethodName)) ∈ TBL := mT (List.mem_append_right _ (List.mem_append_right _ (List.mem_append_left _ (List.mem_of_getElem? (i := 103) rfl)))) (by decide +kernel)
theorem m_584 : (Jvm.Cond.instanceMethod ({ cls := "RuleClasses", name := "keep", desc := "()I" } : Jvm.MethodName)) ∈ TBL := mT (List.mem_append_right _ (List.mem_append_right _ (List.mem_append_left _ (List.mem_of_getElem? (i := 104) rfl)))) (by decide +kernel)
theorem m_585 : (Jvm.Cond.selects "RuleClasses" ({ cls := "RuleClasses", name := "keep", desc := "()I" } : Jvm.MethodName) ({ cls := "RuleClasses", name := "keep", desc := "()I" } : Jvm.MethodName)) ∈ TBL := mT (List.mem_append_right _ (List.mem_append_right _ (List.mem_append_left _ (List.mem_of_getElem? (i := 105) rfl)))) (by decide +kernel)
theorem m_586 : (Jvm.Cond.code ({ cls := "RuleClasses", name := "keep", desc := "()I" } : Jvm.MethodName) prog_1_method_13_code (1 : Nat) (Option.some Jvm.ClassFile.FieldType.int)) ∈ TBL := mT (List.mem_append_right _ (List.mem_append_right _ (List.mem_append_left _ (List.mem_of_getElem? (i := 106) rfl)))) (by decide +kernel)
theorem m_588 : (Jvm.Cond.methodLink "RuleClasses" (184 : Nat) ({ cls := "RuleClasses$Facts", name := "copy", desc := "()LRuleClasses$Facts;" } : Jvm.MethodName)) ∈ TBL := mT (List.mem_append_right _ (List.mem_append_right _ (List.mem_append_left _ (List.mem_of_getElem? (i := 108) rfl)))) (by decide +kernel)
theorem m_589 : (Jvm.Cond.instanceMethod ({ cls := "RuleClasses$Facts", name := "copy", desc := "()LRuleClasses$Facts;" } : Jvm.MethodName)) ∈ TBL := mT (List.mem_append_right _ (List.mem_append_right _ (List.mem_append_left _ (List.mem_of_getElem? (i := 109) rfl)))) (by decide +kernel)
theorem m_590 : (Jvm.Cond.selects "RuleClasses$Facts" ({ cls := "RuleClasses$Facts", name := "copy", desc := "()LRuleClasses$Facts;" } : Jvm.MethodName) ({ cls := "RuleClasses$Facts", name := "copy", desc := "()LRuleClasses$Facts;" } : Jvm.MethodName)) ∈ TBL := mT (List.mem_append_right _ (List.mem_append_right _ (List.mem_append_left _ (List.mem_of_getElem? (i := 110) rfl)))) (by decide +kernel)
theorem m_591 : (Jvm.Cond.code ({ cls := "RuleClasses$Facts", name := "copy", desc := "()LRuleClasses$Facts;" } : Jvm.MethodName) prog_3_method_2_code (2 : Nat) (Option.some (Jvm.ClassFile.FieldType.object "RuleClasses$Facts"))) ∈ TBL := mT (List.mem_append_right _ (List.mem_append_right _ (List.mem_append_left _ (List.mem_of_getElem? (i := 111) rfl)))) (by decide +kernel)
theorem m_592 : (Jvm.Cond.classLink "RuleClasses$Facts" (10 : Nat) "RuleClasses$Facts") ∈ TBL := mT (List.mem_append_right _ (List.mem_append_right _ (List.mem_append_left _ (List.mem_of_getElem? (i := 112) rfl)))) (by decide +kernel)
theorem m_593 : (Jvm.Cond.methodLink "RuleClasses$Facts" (15 : Nat) ({ cls := "RuleClasses$Facts", name := "<init>", desc := "()V" } : Jvm.MethodName)) ∈ TBL := mT (List.mem_append_right _ (List.mem_append_right _ (List.mem_append_left _ (List.mem_of_getElem? (i := 113) rfl)))) (by decide +kernel)
theorem m_594 : (Jvm.Cond.methodLink "RuleClasses$Facts" (16 : Nat) ({ cls := "java/lang/System", name := "arraycopy", desc := "(Ljava/lang/Object;ILjava/lang/Object;II)V" } : Jvm.MethodName)) ∈ TBL := mT (List.mem_append_right _ (List.mem_append_right _ (List.mem_append_left _ (List.mem_of_getElem? (i := 114) rfl)))) (by decide +kernel)
theorem m_595 : (Jvm.Cond.methodLink "RuleClassesLaw" (134 : Nat) ({ cls := "RuleClassesLaw", name := "compare", desc := "(LRuleClasses;II[J)I" } : Jvm.MethodName)) ∈ TBL := mT (List.mem_append_right _ (List.mem_append_right _ (List.mem_append_left _ (List.mem_of_getElem? (i := 115) rfl)))) (by decide +kernel)
theorem m_596 : (Jvm.Cond.static ({ cls := "RuleClassesLaw", name := "compare", desc := "(LRuleClasses;II[J)I" } : Jvm.MethodName)) ∈ TBL := mT (List.mem_append_right _ (List.mem_append_right _ (List.mem_append_left _ (List.mem_of_getElem? (i := 116) rfl)))) (by decide +kernel)
theorem m_597 : (Jvm.Cond.codeWith ({ cls := "RuleClassesLaw", name := "compare", desc := "(LRuleClasses;II[J)I" } : Jvm.MethodName) method_15_code (5 : Nat) (Option.some Jvm.ClassFile.FieldType.int) [((0 : Nat), (10 : Nat), (13 : Nat), (24 : Nat))]) ∈ TBL := mT (List.mem_append_right _ (List.mem_append_right _ (List.mem_append_left _ (List.mem_of_getElem? (i := 117) rfl)))) (by decide +kernel)
theorem m_598 : (Jvm.Cond.methodLink "RuleClassesLaw" (59 : Nat) ({ cls := "RuleClasses", name := "compare", desc := "(II)I" } : Jvm.MethodName)) ∈ TBL := mT (List.mem_append_right _ (List.mem_append_right _ (List.mem_append_left _ (List.mem_of_getElem? (i := 118) rfl)))) (by decide +kernel)
theorem m_599 : (Jvm.Cond.instanceMethod ({ cls := "RuleClasses", name := "compare", desc := "(II)I" } : Jvm.MethodName)) ∈ TBL := mT (List.mem_append_right _ (List.mem_append_right _ (List.mem_append_left _ (List.mem_of_getElem? (i := 119) rfl)))) (by decide +kernel)
theorem m_600 : (Jvm.Cond.selects "RuleClasses" ({ cls := "RuleClasses", name := "compare", desc := "(II)I" } : Jvm.MethodName) ({ cls := "RuleClasses", name := "compare", desc := "(II)I" } : Jvm.MethodName)) ∈ TBL := mT (List.mem_append_right _ (List.mem_append_right _ (List.mem_append_left _ (List.mem_of_getElem? (i := 120) rfl)))) (by decide +kernel)
theorem m_601 : (Jvm.Cond.code ({ cls := "RuleClasses", name := "compare", desc := "(II)I" } : Jvm.MethodName) prog_1_method_14_code (7 : Nat) (Option.some Jvm.ClassFile.FieldType.int)) ∈ TBL := mT (List.mem_append_right _ (List.mem_append_right _ (List.mem_append_left _ (List.mem_of_getElem? (i := 121) rfl)))) (by decide +kernel)
theorem m_602 : (Jvm.Cond.methodLink "RuleClassesLaw" (137 : Nat) ({ cls := "RuleClassesLaw", name := "same", desc := "(LRuleClasses;II[J)I" } : Jvm.MethodName)) ∈ TBL := mT (List.mem_append_right _ (List.mem_append_right _ (List.mem_append_left _ (List.mem_of_getElem? (i := 122) rfl)))) (by decide +kernel)
theorem m_603 : (Jvm.Cond.static ({ cls := "RuleClassesLaw", name := "same", desc := "(LRuleClasses;II[J)I" } : Jvm.MethodName)) ∈ TBL := mT (List.mem_append_right _ (List.mem_append_right _ (List.mem_append_left _ (List.mem_of_getElem? (i := 123) rfl)))) (by decide +kernel)
theorem m_604 : (Jvm.Cond.codeWith ({ cls := "RuleClassesLaw", name := "same", desc := "(LRuleClasses;II[J)I" } : Jvm.MethodName) method_16_code (5 : Nat) (Option.some Jvm.ClassFile.FieldType.int) [((0 : Nat), (17 : Nat), (20 : Nat), (24 : Nat))]) ∈ TBL := mT (List.mem_append_right _ (List.mem_append_right _ (List.mem_append_left _ (List.mem_of_getElem? (i := 124) rfl)))) (by decide +kernel)
theorem m_605 : (Jvm.Cond.methodLink "RuleClassesLaw" (62 : Nat) ({ cls := "RuleClasses", name := "same", desc := "(II)Z" } : Jvm.MethodName)) ∈ TBL := mT (List.mem_append_right _ (List.mem_append_right _ (List.mem_append_left _ (List.mem_of_getElem? (i := 125) rfl)))) (by decide +kernel)
theorem m_606 : (Jvm.Cond.instanceMethod ({ cls := "RuleClasses", name := "same", desc := "(II)Z" } : Jvm.MethodName)) ∈ TBL := mT (List.mem_append_right _ (List.mem_append_right _ (List.mem_append_left _ (List.mem_of_getElem? (i := 126) rfl)))) (by decide +kernel)
theorem m_607 : (Jvm.Cond.selects "RuleClasses" ({ cls := "RuleClasses", name := "same", desc := "(II)Z" } : Jvm.MethodName) ({ cls := "RuleClasses", name := "same", desc := "(II)Z" } : Jvm.MethodName)) ∈ TBL := mT (List.mem_append_right _ (List.mem_append_right _ (List.mem_append_left _ (List.mem_of_getElem? (i := 127) rfl)))) (by decide +kernel)
theorem m_608 : (Jvm.Cond.code ({ cls := "RuleClasses", name := "same", desc := "(II)Z" } : Jvm.MethodName) prog_1_method_15_code (5 : Nat) (Option.some Jvm.ClassFile.FieldType.boolean)) ∈ TBL := mT (List.mem_append_right _ (List.mem_append_right _ (List.mem_append_left _ (List.mem_of_getElem? (i := 128) rfl)))) (by decide +kernel)
theorem m_609 : (Jvm.Cond.methodLink "RuleClasses" (192 : Nat) ({ cls := "RuleClasses$Edition", name := "hasCodeOf", desc := "(LRuleClasses$Edition;)Z" } : Jvm.MethodName)) ∈ TBL := mT (List.mem_append_right _ (List.mem_append_right _ (List.mem_append_left _ (List.mem_of_getElem? (i := 129) rfl)))) (by decide +kernel)
theorem m_610 : (Jvm.Cond.instanceMethod ({ cls := "RuleClasses$Edition", name := "hasCodeOf", desc := "(LRuleClasses$Edition;)Z" } : Jvm.MethodName)) ∈ TBL := mT (List.mem_append_right _ (List.mem_append_right _ (List.mem_append_left _ (List.mem_of_getElem? (i := 130) rfl)))) (by decide +kernel)
theorem m_611 : (Jvm.Cond.selects "RuleClasses$Edition" ({ cls := "RuleClasses$Edition", name := "hasCodeOf", desc := "(LRuleClasses$Edition;)Z" } : Jvm.MethodName) ({ cls := "RuleClasses$Edition", name := "hasCodeOf", desc := "(LRuleClasses$Edition;)Z" } : Jvm.MethodName)) ∈ TBL := mT (List.mem_append_right _ (List.mem_append_right _ (List.mem_append_left _ (List.mem_of_getElem? (i := 131) rfl)))) (by decide +kernel)
theorem m_612 : (Jvm.Cond.code ({ cls := "RuleClasses$Edition", name := "hasCodeOf", desc := "(LRuleClasses$Edition;)Z" } : Jvm.MethodName) prog_2_method_4_code (3 : Nat) (Option.some Jvm.ClassFile.FieldType.boolean)) ∈ TBL := mT (List.mem_append_right _ (List.mem_append_right _ (List.mem_append_left _ (List.mem_of_getElem? (i := 132) rfl)))) (by decide +kernel)
theorem m_613 : (Jvm.Cond.methodLink "RuleClassesLaw" (140 : Nat) ({ cls := "RuleClassesLaw", name := "shadow", desc := "(LRuleClasses;III)I" } : Jvm.MethodName)) ∈ TBL := mT (List.mem_append_right _ (List.mem_append_right _ (List.mem_append_left _ (List.mem_of_getElem? (i := 133) rfl)))) (by decide +kernel)
theorem m_614 : (Jvm.Cond.static ({ cls := "RuleClassesLaw", name := "shadow", desc := "(LRuleClasses;III)I" } : Jvm.MethodName)) ∈ TBL := mT (List.mem_append_right _ (List.mem_append_right _ (List.mem_append_left _ (List.mem_of_getElem? (i := 134) rfl)))) (by decide +kernel)
theorem m_615 : (Jvm.Cond.codeWith ({ cls := "RuleClassesLaw", name := "shadow", desc := "(LRuleClasses;III)I" } : Jvm.MethodName) method_17_code (5 : Nat) (Option.some Jvm.ClassFile.FieldType.int) [((0 : Nat), (7 : Nat), (10 : Nat), (24 : Nat)), ((0 : Nat), (7 : Nat), (14 : Nat), (13 : Nat))]) ∈ TBL := mT (List.mem_append_right _ (List.mem_append_right _ (List.mem_append_left _ (List.mem_of_getElem? (i := 135) rfl)))) (by decide +kernel)
theorem m_616 : (Jvm.Cond.methodLink "RuleClassesLaw" (66 : Nat) ({ cls := "RuleClasses", name := "shadow", desc := "(III)V" } : Jvm.MethodName)) ∈ TBL := mT (List.mem_append_right _ (List.mem_append_right _ (List.mem_append_left _ (List.mem_of_getElem? (i := 136) rfl)))) (by decide +kernel)
theorem m_617 : (Jvm.Cond.instanceMethod ({ cls := "RuleClasses", name := "shadow", desc := "(III)V" } : Jvm.MethodName)) ∈ TBL := mT (List.mem_append_right _ (List.mem_append_right _ (List.mem_append_left _ (List.mem_of_getElem? (i := 137) rfl)))) (by decide +kernel)
theorem m_618 : (Jvm.Cond.selects "RuleClasses" ({ cls := "RuleClasses", name := "shadow", desc := "(III)V" } : Jvm.MethodName) ({ cls := "RuleClasses", name := "shadow", desc := "(III)V" } : Jvm.MethodName)) ∈ TBL := mT (List.mem_append_right _ (List.mem_append_right _ (List.mem_append_left _ (List.mem_of_getElem? (i := 138) rfl)))) (by decide +kernel)
theorem m_619 : (Jvm.Cond.code ({ cls := "RuleClasses", name := "shadow", desc := "(III)V" } : Jvm.MethodName) prog_1_method_16_code (4 : Nat) (Option.none : Option Jvm.ClassFile.FieldType)) ∈ TBL := mT (List.mem_append_right _ (List.mem_append_right _ (List.mem_append_left _ (List.mem_of_getElem? (i := 139) rfl)))) (by decide +kernel)
theorem m_620 : (Jvm.Cond.methodLink "RuleClassesLaw" (144 : Nat) ({ cls := "RuleClassesLaw", name := "otherwise", desc := "(LRuleClasses;II[J)I" } : Jvm.MethodName)) ∈ TBL := mT (List.mem_append_right _ (List.mem_append_right _ (List.mem_append_left _ (List.mem_of_getElem? (i := 140) rfl)))) (by decide +kernel)
theorem m_621 : (Jvm.Cond.static ({ cls := "RuleClassesLaw", name := "otherwise", desc := "(LRuleClasses;II[J)I" } : Jvm.MethodName)) ∈ TBL := mT (List.mem_append_right _ (List.mem_append_right _ (List.mem_append_left _ (List.mem_of_getElem? (i := 141) rfl)))) (by decide +kernel)
theorem m_622 : (Jvm.Cond.codeWith ({ cls := "RuleClassesLaw", name := "otherwise", desc := "(LRuleClasses;II[J)I" } : Jvm.MethodName) method_18_code (5 : Nat) (Option.some Jvm.ClassFile.FieldType.int) [((0 : Nat), (10 : Nat), (13 : Nat), (13 : Nat))]) ∈ TBL := mT (List.mem_append_right _ (List.mem_append_right _ (List.mem_append_left _ (List.mem_of_getElem? (i := 142) rfl)))) (by decide +kernel)
theorem m_623 : (Jvm.Cond.methodLink "RuleClassesLaw" (70 : Nat) ({ cls := "RuleClasses", name := "otherwise", desc := "(II)I" } : Jvm.MethodName)) ∈ TBL := mT (List.mem_append_right _ (List.mem_append_right _ (List.mem_append_left _ (List.mem_of_getElem? (i := 143) rfl)))) (by decide +kernel)
theorem m_624 : (Jvm.Cond.instanceMethod ({ cls := "RuleClasses", name := "otherwise", desc := "(II)I" } : Jvm.MethodName)) ∈ TBL := mT (List.mem_append_right _ (List.mem_append_right _ (List.mem_append_left _ (List.mem_of_getElem? (i := 144) rfl)))) (by decide +kernel)
theorem m_625 : (Jvm.Cond.selects "RuleClasses" ({ cls := "RuleClasses", name := "otherwise", desc := "(II)I" } : Jvm.MethodName) ({ cls := "RuleClasses", name := "otherwise", desc := "(II)I" } : Jvm.MethodName)) ∈ TBL := mT (List.mem_append_right _ (List.mem_append_right _ (List.mem_append_left _ (List.mem_of_getElem? (i := 145) rfl)))) (by decide +kernel)
theorem m_626 : (Jvm.Cond.code ({ cls := "RuleClasses", name := "otherwise", desc := "(II)I" } : Jvm.MethodName) prog_1_method_17_code (3 : Nat) (Option.some Jvm.ClassFile.FieldType.int)) ∈ TBL := mT (List.mem_append_right _ (List.mem_append_right _ (List.mem_append_left _ (List.mem_of_getElem? (i := 146) rfl)))) (by decide +kernel)
theorem m_627 : (Jvm.Cond.methodLink "RuleClassesLaw" (147 : Nat) ({ cls := "RuleClassesLaw", name := "divide", desc := "(LRuleClasses;II[J)I" } : Jvm.MethodName)) ∈ TBL := mT (List.mem_append_right _ (List.mem_append_right _ (List.mem_append_left _ (List.mem_of_getElem? (i := 147) rfl)))) (by decide +kernel)
theorem m_628 : (Jvm.Cond.static ({ cls := "RuleClassesLaw", name := "divide", desc := "(LRuleClasses;II[J)I" } : Jvm.MethodName)) ∈ TBL := mT (List.mem_append_right _ (List.mem_append_right _ (List.mem_append_left _ (List.mem_of_getElem? (i := 148) rfl)))) (by decide +kernel)
theorem m_629 : (Jvm.Cond.codeWith ({ cls := "RuleClassesLaw", name := "divide", desc := "(LRuleClasses;II[J)I" } : Jvm.MethodName) method_19_code (5 : Nat) (Option.some Jvm.ClassFile.FieldType.int) [((0 : Nat), (10 : Nat), (13 : Nat), (76 : Nat))]) ∈ TBL := mT (List.mem_append_right _ (List.mem_append_right _ (List.mem_append_left _ (List.mem_of_getElem? (i := 149) rfl)))) (by decide +kernel)
theorem m_630 : (Jvm.Cond.classLink "RuleClassesLaw" (76 : Nat) "java/lang/ArithmeticException") ∈ TBL := mT (List.mem_append_right _ (List.mem_append_right _ (List.mem_append_left _ (List.mem_of_getElem? (i := 150) rfl)))) (by decide +kernel)
theorem m_631 : (Jvm.Cond.methodLink "RuleClassesLaw" (73 : Nat) ({ cls := "RuleClasses", name := "divide", desc := "(II)I" } : Jvm.MethodName)) ∈ TBL := mT (List.mem_append_right _ (List.mem_append_right _ (List.mem_append_left _ (List.mem_of_getElem? (i := 151) rfl)))) (by decide +kernel)
theorem m_632 : (Jvm.Cond.instanceMethod ({ cls := "RuleClasses", name := "divide", desc := "(II)I" } : Jvm.MethodName)) ∈ TBL := mT (List.mem_append_right _ (List.mem_append_right _ (List.mem_append_left _ (List.mem_of_getElem? (i := 152) rfl)))) (by decide +kernel)
theorem m_633 : (Jvm.Cond.selects "RuleClasses" ({ cls := "RuleClasses", name := "divide", desc := "(II)I" } : Jvm.MethodName) ({ cls := "RuleClasses", name := "divide", desc := "(II)I" } : Jvm.MethodName)) ∈ TBL := mT (List.mem_append_right _ (List.mem_append_right _ (List.mem_append_left _ (List.mem_of_getElem? (i := 153) rfl)))) (by decide +kernel)
theorem m_634 : (Jvm.Cond.code ({ cls := "RuleClasses", name := "divide", desc := "(II)I" } : Jvm.MethodName) prog_1_method_18_code (3 : Nat) (Option.some Jvm.ClassFile.FieldType.int)) ∈ TBL := mT (List.mem_append_right _ (List.mem_append_right _ (List.mem_append_left _ (List.mem_of_getElem? (i := 154) rfl)))) (by decide +kernel)
theorem m_635 : (Jvm.Cond.classLink "RuleClasses" (199 : Nat) "java/lang/ArithmeticException") ∈ TBL := mT (List.mem_append_right _ (List.mem_append_right _ (List.mem_append_left _ (List.mem_of_getElem? (i := 155) rfl)))) (by decide +kernel)
theorem m_651 : (Jvm.Cond.methodLink "RuleClassesLaw" (150 : Nat) ({ cls := "RuleClassesLaw", name := "told", desc := "(LRuleClasses;II[J)I" } : Jvm.MethodName)) ∈ TBL := mT (List.mem_append_right _ (List.mem_append_right _ (List.mem_append_left _ (List.mem_of_getElem? (i := 171) rfl)))) (by decide +kernel)
theorem m_652 : (Jvm.Cond.static ({ cls := "RuleClassesLaw", name := "told", desc := "(LRuleClasses;II[J)I" } : Jvm.MethodName)) ∈ TBL := mT (List.mem_append_right _ (List.mem_append_right _ (List.mem_append_left _ (List.mem_of_getElem? (i := 172) rfl)))) (by decide +kernel)
theorem m_653 : (Jvm.Cond.codeWith ({ cls := "RuleClassesLaw", name := "told", desc := "(LRuleClasses;II[J)I" } : Jvm.MethodName) method_20_code (5 : Nat) (Option.some Jvm.ClassFile.FieldType.int) [((0 : Nat), (10 : Nat), (13 : Nat), (24 : Nat)), ((0 : Nat), (10 : Nat), (17 : Nat), (13 : Nat))]) ∈ TBL := mT (List.mem_append_right _ (List.mem_append_right _ (List.mem_append_left _ (List.mem_of_getElem? (i := 173) rfl)))) (by decide +kernel)
theorem m_654 : (Jvm.Cond.methodLink "RuleClassesLaw" (78 : Nat) ({ cls := "RuleClasses", name := "told", desc := "(II)I" } : Jvm.MethodName)) ∈ TBL := mT (List.mem_append_right _ (List.mem_append_right _ (List.mem_append_left _ (List.mem_of_getElem? (i := 174) rfl)))) (by decide +kernel)
theorem m_655 : (Jvm.Cond.instanceMethod ({ cls := "RuleClasses", name := "told", desc := "(II)I" } : Jvm.MethodName)) ∈ TBL := mT (List.mem_append_right _ (List.mem_append_right _ (List.mem_append_left _ (List.mem_of_getElem? (i := 175) rfl)))) (by decide +kernel)
theorem m_656 : (Jvm.Cond.selects "RuleClasses" ({ cls := "RuleClasses", name := "told", desc := "(II)I" } : Jvm.MethodName) ({ cls := "RuleClasses", name := "told", desc := "(II)I" } : Jvm.MethodName)) ∈ TBL := mT (List.mem_append_right _ (List.mem_append_right _ (List.mem_append_left _ (List.mem_of_getElem? (i := 176) rfl)))) (by decide +kernel)
theorem m_657 : (Jvm.Cond.code ({ cls := "RuleClasses", name := "told", desc := "(II)I" } : Jvm.MethodName) prog_1_method_19_code (4 : Nat) (Option.some Jvm.ClassFile.FieldType.int)) ∈ TBL := mT (List.mem_append_right _ (List.mem_append_right _ (List.mem_append_left _ (List.mem_of_getElem? (i := 177) rfl)))) (by decide +kernel)
theorem m_658 : (Jvm.Cond.methodLink "RuleClasses" (204 : Nat) ({ cls := "RuleClasses$Edition", name := "tell", desc := "(I)I" } : Jvm.MethodName)) ∈ TBL := mT (List.mem_append_right _ (List.mem_append_right _ (List.mem_append_left _ (List.mem_of_getElem? (i := 178) rfl)))) (by decide +kernel)
theorem m_659 : (Jvm.Cond.instanceMethod ({ cls := "RuleClasses$Edition", name := "tell", desc := "(I)I" } : Jvm.MethodName)) ∈ TBL := mT (List.mem_append_right _ (List.mem_append_right _ (List.mem_append_left _ (List.mem_of_getElem? (i := 179) rfl)))) (by decide +kernel)
theorem m_660 : (Jvm.Cond.selects "RuleClasses$Edition" ({ cls := "RuleClasses$Edition", name := "tell", desc := "(I)I" } : Jvm.MethodName) ({ cls := "RuleClasses$Edition", name := "tell", desc := "(I)I" } : Jvm.MethodName)) ∈ TBL := mT (List.mem_append_right _ (List.mem_append_right _ (List.mem_append_left _ (List.mem_of_getElem? (i := 180) rfl)))) (by decide +kernel)
theorem m_661 : (Jvm.Cond.code ({ cls := "RuleClasses$Edition", name := "tell", desc := "(I)I" } : Jvm.MethodName) prog_2_method_6_code (2 : Nat) (Option.some Jvm.ClassFile.FieldType.int)) ∈ TBL := mT (List.mem_append_right _ (List.mem_append_right _ (List.mem_append_left _ (List.mem_of_getElem? (i := 181) rfl)))) (by decide +kernel)
theorem m_662 : (Jvm.Cond.classLink "RuleClassesLaw" (89 : Nat) "RuleClassesModel") ∈ TBL := mT (List.mem_append_right _ (List.mem_append_right _ (List.mem_append_left _ (List.mem_of_getElem? (i := 182) rfl)))) (by decide +kernel)
theorem m_663 : (Jvm.Cond.instantiable "RuleClassesModel" (30 : Nat)) ∈ TBL := mT (List.mem_append_right _ (List.mem_append_right _ (List.mem_append_left _ (List.mem_of_getElem? (i := 183) rfl)))) (by decide +kernel)
theorem m_664 : (Jvm.Cond.methodLink "RuleClassesLaw" (91 : Nat) ({ cls := "RuleClassesModel", name := "<init>", desc := "(I)V" } : Jvm.MethodName)) ∈ TBL := mT (List.mem_append_right _ (List.mem_append_right _ (List.mem_append_left _ (List.mem_of_getElem? (i := 184) rfl)))) (by decide +kernel)
theorem m_665 : (Jvm.Cond.instanceMethod ({ cls := "RuleClassesModel", name := "<init>", desc := "(I)V" } : Jvm.MethodName)) ∈ TBL := mT (List.mem_append_right _ (List.mem_append_right _ (List.mem_append_left _ (List.mem_of_getElem? (i := 185) rfl)))) (by decide +kernel)
theorem m_666 : (Jvm.Cond.code ({ cls := "RuleClassesModel", name := "<init>", desc := "(I)V" } : Jvm.MethodName) prog_6_method_1_code (2 : Nat) (Option.none : Option Jvm.ClassFile.FieldType)) ∈ TBL := mT (List.mem_append_right _ (List.mem_append_right _ (List.mem_append_left _ (List.mem_of_getElem? (i := 186) rfl)))) (by decide +kernel)
theorem m_667 : (Jvm.Cond.methodLink "RuleClassesModel" (1 : Nat) ({ cls := "java/lang/Object", name := "<init>", desc := "()V" } : Jvm.MethodName)) ∈ TBL := mT (List.mem_append_right _ (List.mem_append_right _ (List.mem_append_left _ (List.mem_of_getElem? (i := 187) rfl)))) (by decide +kernel)
theorem m_668 : (Jvm.Cond.fieldLink "RuleClassesModel" (70 : Nat) "RuleClassesModel" "most" "I") ∈ TBL := mT (List.mem_append_right _ (List.mem_append_right _ (List.mem_append_left _ (List.mem_of_getElem? (i := 188) rfl)))) (by decide +kernel)
theorem m_669 : (Jvm.Cond.fieldLink "RuleClassesModel" (76 : Nat) "RuleClassesModel" "editions" "I") ∈ TBL := mT (List.mem_append_right _ (List.mem_append_right _ (List.mem_append_left _ (List.mem_of_getElem? (i := 189) rfl)))) (by decide +kernel)
theorem m_670 : (Jvm.Cond.fieldLink "RuleClassesModel" (83 : Nat) "RuleClassesModel" "day" "I") ∈ TBL := mT (List.mem_append_right _ (List.mem_append_right _ (List.mem_append_left _ (List.mem_of_getElem? (i := 190) rfl)))) (by decide +kernel)
theorem m_671 : (Jvm.Cond.fieldLink "RuleClassesModel" (73 : Nat) "RuleClassesModel" "thrown" "I") ∈ TBL := mT (List.mem_append_right _ (List.mem_append_right _ (List.mem_append_left _ (List.mem_of_getElem? (i := 191) rfl)))) (by decide +kernel)
theorem m_672 : (Jvm.Cond.fieldLink "RuleClassesModel" (131 : Nat) "RuleClassesModel" "questions" "I") ∈ TBL := mT (List.mem_append_right _ (List.mem_append_right _ (List.mem_append_left _ (List.mem_of_getElem? (i := 192) rfl)))) (by decide +kernel)
theorem m_673 : (Jvm.Cond.fieldLink "RuleClassesModel" (144 : Nat) "RuleClassesModel" "kept" "I") ∈ TBL := mT (List.mem_append_right _ (List.mem_append_right _ (List.mem_append_left _ (List.mem_of_getElem? (i := 193) rfl)))) (by decide +kernel)
theorem m_674 : (Jvm.Cond.fieldLink "RuleClassesModel" (141 : Nat) "RuleClassesModel" "handles" "I") ∈ TBL := mT (List.mem_append_right _ (List.mem_append_right _ (List.mem_append_left _ (List.mem_of_getElem? (i := 194) rfl)))) (by decide +kernel)
theorem m_675 : (Jvm.Cond.fieldLink "RuleClassesModel" (9 : Nat) "RuleClassesModel" "handled" "I") ∈ TBL := mT (List.mem_append_right _ (List.mem_append_right _ (List.mem_append_left _ (List.mem_of_getElem? (i := 195) rfl)))) (by decide +kernel)
theorem m_676 : (Jvm.Cond.fieldLink "RuleClassesModel" (13 : Nat) "RuleClassesModel" "owner" "[I") ∈ TBL := mT (List.mem_append_right _ (List.mem_append_right _ (List.mem_append_left _ (List.mem_of_getElem? (i := 196) rfl)))) (by decide +kernel)
theorem m_677 : (Jvm.Cond.fieldLink "RuleClassesModel" (17 : Nat) "RuleClassesModel" "kind" "[I") ∈ TBL := mT (List.mem_append_right _ (List.mem_append_right _ (List.mem_append_left _ (List.mem_of_getElem? (i := 197) rfl)))) (by decide +kernel)
theorem m_678 : (Jvm.Cond.fieldLink "RuleClassesModel" (20 : Nat) "RuleClassesModel" "from" "[I") ∈ TBL := mT (List.mem_append_right _ (List.mem_append_right _ (List.mem_append_left _ (List.mem_of_getElem? (i := 198) rfl)))) (by decide +kernel)
theorem m_679 : (Jvm.Cond.fieldLink "RuleClassesModel" (23 : Nat) "RuleClassesModel" "made" "[Z") ∈ TBL := mT (List.mem_append_right _ (List.mem_append_right _ (List.mem_append_left _ (List.mem_of_getElem? (i := 199) rfl)))) (by decide +kernel)
theorem m_680 : (Jvm.Cond.fieldLink "RuleClassesModel" (27 : Nat) "RuleClassesModel" "asked" "[I") ∈ TBL := mT (List.mem_append_right _ (List.mem_append_right _ (List.mem_append_left _ (List.mem_of_getElem? (i := 200) rfl)))) (by decide +kernel)
theorem m_681 : (Jvm.Cond.fieldLink "RuleClassesModel" (30 : Nat) "RuleClassesModel" "stepsOf" "[I") ∈ TBL := mT (List.mem_append_right _ (List.mem_append_right _ (List.mem_append_left _ (List.mem_of_getElem? (i := 201) rfl)))) (by decide +kernel)
theorem m_682 : (Jvm.Cond.fieldLink "RuleClassesModel" (33 : Nat) "RuleClassesModel" "fails" "[I") ∈ TBL := mT (List.mem_append_right _ (List.mem_append_right _ (List.mem_append_left _ (List.mem_of_getElem? (i := 202) rfl)))) (by decide +kernel)
theorem m_683 : (Jvm.Cond.fieldLink "RuleClassesModel" (36 : Nat) "RuleClassesModel" "many" "[I") ∈ TBL := mT (List.mem_append_right _ (List.mem_append_right _ (List.mem_append_left _ (List.mem_of_getElem? (i := 203) rfl)))) (by decide +kernel)
theorem m_684 : (Jvm.Cond.fieldLink "RuleClassesModel" (39 : Nat) "RuleClassesModel" "ops" "[I") ∈ TBL := mT (List.mem_append_right _ (List.mem_append_right _ (List.mem_append_left _ (List.mem_of_getElem? (i := 204) rfl)))) (by decide +kernel)
theorem m_685 : (Jvm.Cond.fieldLink "RuleClassesModel" (42 : Nat) "RuleClassesModel" "constants" "[I") ∈ TBL := mT (List.mem_append_right _ (List.mem_append_right _ (List.mem_append_left _ (List.mem_of_getElem? (i := 205) rfl)))) (by decide +kernel)
theorem m_686 : (Jvm.Cond.fieldLink "RuleClassesModel" (45 : Nat) "RuleClassesModel" "facts" "[I") ∈ TBL := mT (List.mem_append_right _ (List.mem_append_right _ (List.mem_append_left _ (List.mem_of_getElem? (i := 206) rfl)))) (by decide +kernel)
theorem m_687 : (Jvm.Cond.fieldLink "RuleClassesModel" (48 : Nat) "RuleClassesModel" "keptFacts" "[I") ∈ TBL := mT (List.mem_append_right _ (List.mem_append_right _ (List.mem_append_left _ (List.mem_of_getElem? (i := 207) rfl)))) (by decide +kernel)
theorem m_688 : (Jvm.Cond.fieldLink "RuleClassesModel" (51 : Nat) "RuleClassesModel" "fallbacks" "[I") ∈ TBL := mT (List.mem_append_right _ (List.mem_append_right _ (List.mem_append_left _ (List.mem_of_getElem? (i := 208) rfl)))) (by decide +kernel)
theorem m_689 : (Jvm.Cond.fieldLink "RuleClassesModel" (54 : Nat) "RuleClassesModel" "failures" "[I") ∈ TBL := mT (List.mem_append_right _ (List.mem_append_right _ (List.mem_append_left _ (List.mem_of_getElem? (i := 209) rfl)))) (by decide +kernel)
theorem m_690 : (Jvm.Cond.fieldLink "RuleClassesModel" (57 : Nat) "RuleClassesModel" "shadows" "[I") ∈ TBL := mT (List.mem_append_right _ (List.mem_append_right _ (List.mem_append_left _ (List.mem_of_getElem? (i := 210) rfl)))) (by decide +kernel)
theorem m_691 : (Jvm.Cond.fieldLink "RuleClassesModel" (60 : Nat) "RuleClassesModel" "others" "[I") ∈ TBL := mT (List.mem_append_right _ (List.mem_append_right _ (List.mem_append_left _ (List.mem_of_getElem? (i := 211) rfl)))) (by decide +kernel)
theorem m_692 : (Jvm.Cond.fieldLink "RuleClassesModel" (63 : Nat) "RuleClassesModel" "stack" "[J") ∈ TBL := mT (List.mem_append_right _ (List.mem_append_right _ (List.mem_append_left _ (List.mem_of_getElem? (i := 212) rfl)))) (by decide +kernel)
theorem m_693 : (Jvm.Cond.fieldLink "RuleClassesModel" (103 : Nat) "RuleClassesModel" "put" "I") ∈ TBL := mT (List.mem_append_right _ (List.mem_append_right _ (List.mem_append_left _ (List.mem_of_getElem? (i := 213) rfl)))) (by decide +kernel)
theorem m_694 : (Jvm.Cond.fieldLink "RuleClassesModel" (97 : Nat) "RuleClassesModel" "steps" "I") ∈ TBL := mT (List.mem_append_right _ (List.mem_append_right _ (List.mem_append_left _ (List.mem_of_getElem? (i := 214) rfl)))) (by decide +kernel)
theorem m_695 : (Jvm.Cond.fieldLink "RuleClassesModel" (100 : Nat) "RuleClassesModel" "next" "I") ∈ TBL := mT (List.mem_append_right _ (List.mem_append_right _ (List.mem_append_left _ (List.mem_of_getElem? (i := 215) rfl)))) (by decide +kernel)
theorem m_696 : (Jvm.Cond.fieldLink "RuleClassesModel" (110 : Nat) "RuleClassesModel" "answer" "J") ∈ TBL := mT (List.mem_append_right _ (List.mem_append_right _ (List.mem_append_left _ (List.mem_of_getElem? (i := 216) rfl)))) (by decide +kernel)
theorem m_697 : (Jvm.Cond.fieldLink "RuleClassesModel" (67 : Nat) "RuleClassesModel" "given" "[I") ∈ TBL := mT (List.mem_append_right _ (List.mem_append_right _ (List.mem_append_left _ (List.mem_of_getElem? (i := 217) rfl)))) (by decide +kernel)
theorem m_698 : (Jvm.Cond.laysFinal "RuleClassesModel" "RuleClassesModel" "most" "I") ∈ TBL := mT (List.mem_append_right _ (List.mem_append_right _ (List.mem_append_left _ (List.mem_of_getElem? (i := 218) rfl)))) (by decide +kernel)
theorem m_700 : (Jvm.Cond.lays "RuleClassesModel" "RuleClassesModel" "editions" "I") ∈ TBL := mT (List.mem_append_right _ (List.mem_append_right _ (List.mem_append_left _ (List.mem_of_getElem? (i := 220) rfl)))) (by decide +kernel)
theorem m_702 : (Jvm.Cond.lays "RuleClassesModel" "RuleClassesModel" "day" "I") ∈ TBL := mT (List.mem_append_right _ (List.mem_append_right _ (List.mem_append_left _ (List.mem_of_getElem? (i := 222) rfl)))) (by decide +kernel)
theorem m_704 : (Jvm.Cond.lays "RuleClassesModel" "RuleClassesModel" "thrown" "I") ∈ TBL := mT (List.mem_append_right _ (List.mem_append_right _ (List.mem_append_left _ (List.mem_of_getElem? (i := 224) rfl)))) (by decide +kernel)
theorem m_706 : (Jvm.Cond.lays "RuleClassesModel" "RuleClassesModel" "questions" "I") ∈ TBL := mT (List.mem_append_right _ (List.mem_append_right _ (List.mem_append_left _ (List.mem_of_getElem? (i := 226) rfl)))) (by decide +kernel)
theorem m_708 : (Jvm.Cond.lays "RuleClassesModel" "RuleClassesModel" "kept" "I") ∈ TBL := mT (List.mem_append_right _ (List.mem_append_right _ (List.mem_append_left _ (List.mem_of_getElem? (i := 228) rfl)))) (by decide +kernel)
theorem m_710 : (Jvm.Cond.lays "RuleClassesModel" "RuleClassesModel" "handles" "I") ∈ TBL := mT (List.mem_append_right _ (List.mem_append_right _ (List.mem_append_left _ (List.mem_of_getElem? (i := 230) rfl)))) (by decide +kernel)
theorem m_712 : (Jvm.Cond.lays "RuleClassesModel" "RuleClassesModel" "handled" "I") ∈ TBL := mT (List.mem_append_right _ (List.mem_append_right _ (List.mem_append_left _ (List.mem_of_getElem? (i := 232) rfl)))) (by decide +kernel)
theorem m_714 : (Jvm.Cond.laysFinal "RuleClassesModel" "RuleClassesModel" "owner" "[I") ∈ TBL := mT (List.mem_append_right _ (List.mem_append_right _ (List.mem_append_left _ (List.mem_of_getElem? (i := 234) rfl)))) (by decide +kernel)
theorem m_716 : (Jvm.Cond.laysFinal "RuleClassesModel" "RuleClassesModel" "kind" "[I") ∈ TBL := mT (List.mem_append_right _ (List.mem_append_right _ (List.mem_append_left _ (List.mem_of_getElem? (i := 236) rfl)))) (by decide +kernel)
theorem m_718 : (Jvm.Cond.laysFinal "RuleClassesModel" "RuleClassesModel" "from" "[I") ∈ TBL := mT (List.mem_append_right _ (List.mem_append_right _ (List.mem_append_left _ (List.mem_of_getElem? (i := 238) rfl)))) (by decide +kernel)
theorem m_720 : (Jvm.Cond.laysFinal "RuleClassesModel" "RuleClassesModel" "made" "[Z") ∈ TBL := mT (List.mem_append_right _ (List.mem_append_right _ (List.mem_append_right _ (List.mem_of_getElem? (i := 0) rfl)))) (by decide +kernel)
theorem m_722 : (Jvm.Cond.laysFinal "RuleClassesModel" "RuleClassesModel" "asked" "[I") ∈ TBL := mT (List.mem_append_right _ (List.mem_append_right _ (List.mem_append_right _ (List.mem_of_getElem? (i := 2) rfl)))) (by decide +kernel)
theorem m_724 : (Jvm.Cond.laysFinal "RuleClassesModel" "RuleClassesModel" "stepsOf" "[I") ∈ TBL := mT (List.mem_append_right _ (List.mem_append_right _ (List.mem_append_right _ (List.mem_of_getElem? (i := 4) rfl)))) (by decide +kernel)
theorem m_726 : (Jvm.Cond.laysFinal "RuleClassesModel" "RuleClassesModel" "fails" "[I") ∈ TBL := mT (List.mem_append_right _ (List.mem_append_right _ (List.mem_append_right _ (List.mem_of_getElem? (i := 6) rfl)))) (by decide +kernel)
theorem m_728 : (Jvm.Cond.laysFinal "RuleClassesModel" "RuleClassesModel" "many" "[I") ∈ TBL := mT (List.mem_append_right _ (List.mem_append_right _ (List.mem_append_right _ (List.mem_of_getElem? (i := 8) rfl)))) (by decide +kernel)
theorem m_730 : (Jvm.Cond.laysFinal "RuleClassesModel" "RuleClassesModel" "ops" "[I") ∈ TBL := mT (List.mem_append_right _ (List.mem_append_right _ (List.mem_append_right _ (List.mem_of_getElem? (i := 10) rfl)))) (by decide +kernel)
theorem m_732 : (Jvm.Cond.laysFinal "RuleClassesModel" "RuleClassesModel" "constants" "[I") ∈ TBL := mT (List.mem_append_right _ (List.mem_append_right _ (List.mem_append_right _ (List.mem_of_getElem? (i := 12) rfl)))) (by decide +kernel)
theorem m_734 : (Jvm.Cond.laysFinal "RuleClassesModel" "RuleClassesModel" "facts" "[I") ∈ TBL := mT (List.mem_append_right _ (List.mem_append_right _ (List.mem_append_right _ (List.mem_of_getElem? (i := 14) rfl)))) (by decide +kernel)
theorem m_736 : (Jvm.Cond.laysFinal "RuleClassesModel" "RuleClassesModel" "keptFacts" "[I") ∈ TBL := mT (List.mem_append_right _ (List.mem_append_right _ (List.mem_append_right _ (List.mem_of_getElem? (i := 16) rfl)))) (by decide +kernel)
theorem m_738 : (Jvm.Cond.laysFinal "RuleClassesModel" "RuleClassesModel" "fallbacks" "[I") ∈ TBL := mT (List.mem_append_right _ (List.mem_append_right _ (List.mem_append_right _ (List.mem_of_getElem? (i := 18) rfl)))) (by decide +kernel)
theorem m_740 : (Jvm.Cond.laysFinal "RuleClassesModel" "RuleClassesModel" "failures" "[I") ∈ TBL := mT (List.mem_append_right _ (List.mem_append_right _ (List.mem_append_right _ (List.mem_of_getElem? (i := 20) rfl)))) (by decide +kernel)
theorem m_742 : (Jvm.Cond.laysFinal "RuleClassesModel" "RuleClassesModel" "shadows" "[I") ∈ TBL := mT (List.mem_append_right _ (List.mem_append_right _ (List.mem_append_right _ (List.mem_of_getElem? (i := 22) rfl)))) (by decide +kernel)
theorem m_744 : (Jvm.Cond.laysFinal "RuleClassesModel" "RuleClassesModel" "others" "[I") ∈ TBL := mT (List.mem_append_right _ (List.mem_append_right _ (List.mem_append_right _ (List.mem_of_getElem? (i := 24) rfl)))) (by decide +kernel)
theorem m_746 : (Jvm.Cond.laysFinal "RuleClassesModel" "RuleClassesModel" "stack" "[J") ∈ TBL := mT (List.mem_append_right _ (List.mem_append_right _ (List.mem_append_right _ (List.mem_of_getElem? (i := 26) rfl)))) (by decide +kernel)
theorem m_748 : (Jvm.Cond.lays "RuleClassesModel" "RuleClassesModel" "put" "I") ∈ TBL := mT (List.mem_append_right _ (List.mem_append_right _ (List.mem_append_right _ (List.mem_of_getElem? (i := 28) rfl)))) (by decide +kernel)
theorem m_750 : (Jvm.Cond.lays "RuleClassesModel" "RuleClassesModel" "steps" "I") ∈ TBL := mT (List.mem_append_right _ (List.mem_append_right _ (List.mem_append_right _ (List.mem_of_getElem? (i := 30) rfl)))) (by decide +kernel)
theorem m_752 : (Jvm.Cond.lays "RuleClassesModel" "RuleClassesModel" "next" "I") ∈ TBL := mT (List.mem_append_right _ (List.mem_append_right _ (List.mem_append_right _ (List.mem_of_getElem? (i := 32) rfl)))) (by decide +kernel)
theorem m_754 : (Jvm.Cond.lays "RuleClassesModel" "RuleClassesModel" "answer" "J") ∈ TBL := mT (List.mem_append_right _ (List.mem_append_right _ (List.mem_append_right _ (List.mem_of_getElem? (i := 34) rfl)))) (by decide +kernel)
theorem m_756 : (Jvm.Cond.laysFinal "RuleClassesModel" "RuleClassesModel" "given" "[I") ∈ TBL := mT (List.mem_append_right _ (List.mem_append_right _ (List.mem_append_right _ (List.mem_of_getElem? (i := 36) rfl)))) (by decide +kernel)
theorem m_759 : (Jvm.Cond.arrayClass Jvm.ClassFile.FieldType.boolean) ∈ TBL := mT (List.mem_append_right _ (List.mem_append_right _ (List.mem_append_right _ (List.mem_of_getElem? (i := 39) rfl)))) (by decide +kernel)
theorem m_760 : (Jvm.Cond.arrayClass Jvm.ClassFile.FieldType.long) ∈ TBL := mT (List.mem_append_right _ (List.mem_append_right _ (List.mem_append_right _ (List.mem_of_getElem? (i := 40) rfl)))) (by decide +kernel)
theorem m_761 : (Jvm.Cond.methodLink "RuleClassesLaw" (95 : Nat) ({ cls := "RuleClassesModel", name := "today", desc := "(I)V" } : Jvm.MethodName)) ∈ TBL := mT (List.mem_append_right _ (List.mem_append_right _ (List.mem_append_right _ (List.mem_of_getElem? (i := 41) rfl)))) (by decide +kernel)
theorem m_762 : (Jvm.Cond.instanceMethod ({ cls := "RuleClassesModel", name := "today", desc := "(I)V" } : Jvm.MethodName)) ∈ TBL := mT (List.mem_append_right _ (List.mem_append_right _ (List.mem_append_right _ (List.mem_of_getElem? (i := 42) rfl)))) (by decide +kernel)
theorem m_763 : (Jvm.Cond.selects "RuleClassesModel" ({ cls := "RuleClassesModel", name := "today", desc := "(I)V" } : Jvm.MethodName) ({ cls := "RuleClassesModel", name := "today", desc := "(I)V" } : Jvm.MethodName)) ∈ TBL := mT (List.mem_append_right _ (List.mem_append_right _ (List.mem_append_right _ (List.mem_of_getElem? (i := 43) rfl)))) (by decide +kernel)
theorem m_764 : (Jvm.Cond.code ({ cls := "RuleClassesModel", name := "today", desc := "(I)V" } : Jvm.MethodName) prog_6_method_6_code (2 : Nat) (Option.none : Option Jvm.ClassFile.FieldType)) ∈ TBL := mT (List.mem_append_right _ (List.mem_append_right _ (List.mem_append_right _ (List.mem_of_getElem? (i := 44) rfl)))) (by decide +kernel)
theorem m_765 : (Jvm.Cond.methodLink "RuleClassesModel" (79 : Nat) ({ cls := "RuleClassesModel", name := "within", desc := "(III)Z" } : Jvm.MethodName)) ∈ TBL := mT (List.mem_append_right _ (List.mem_append_right _ (List.mem_append_right _ (List.mem_of_getElem? (i := 45) rfl)))) (by decide +kernel)
theorem m_766 : (Jvm.Cond.static ({ cls := "RuleClassesModel", name := "within", desc := "(III)Z" } : Jvm.MethodName)) ∈ TBL := mT (List.mem_append_right _ (List.mem_append_right _ (List.mem_append_right _ (List.mem_of_getElem? (i := 46) rfl)))) (by decide +kernel)
theorem m_767 : (Jvm.Cond.code ({ cls := "RuleClassesModel", name := "within", desc := "(III)Z" } : Jvm.MethodName) prog_6_method_3_code (3 : Nat) (Option.some Jvm.ClassFile.FieldType.boolean)) ∈ TBL := mT (List.mem_append_right _ (List.mem_append_right _ (List.mem_append_right _ (List.mem_of_getElem? (i := 47) rfl)))) (by decide +kernel)
theorem m_768 : (Jvm.Cond.methodLink "RuleClassesLaw" (99 : Nat) ({ cls := "RuleClassesModel", name := "rule", desc := "(III)I" } : Jvm.MethodName)) ∈ TBL := mT (List.mem_append_right _ (List.mem_append_right _ (List.mem_append_right _ (List.mem_of_getElem? (i := 48) rfl)))) (by decide +kernel)
theorem m_769 : (Jvm.Cond.instanceMethod ({ cls := "RuleClassesModel", name := "rule", desc := "(III)I" } : Jvm.MethodName)) ∈ TBL := mT (List.mem_append_right _ (List.mem_append_right _ (List.mem_append_right _ (List.mem_of_getElem? (i := 49) rfl)))) (by decide +kernel)
theorem m_770 : (Jvm.Cond.selects "RuleClassesModel" ({ cls := "RuleClassesModel", name := "rule", desc := "(III)I" } : Jvm.MethodName) ({ cls := "RuleClassesModel", name := "rule", desc := "(III)I" } : Jvm.MethodName)) ∈ TBL := mT (List.mem_append_right _ (List.mem_append_right _ (List.mem_append_right _ (List.mem_of_getElem? (i := 50) rfl)))) (by decide +kernel)
theorem m_771 : (Jvm.Cond.code ({ cls := "RuleClassesModel", name := "rule", desc := "(III)I" } : Jvm.MethodName) prog_6_method_7_code (4 : Nat) (Option.some Jvm.ClassFile.FieldType.int)) ∈ TBL := mT (List.mem_append_right _ (List.mem_append_right _ (List.mem_append_right _ (List.mem_of_getElem? (i := 51) rfl)))) (by decide +kernel)
theorem m_772 : (Jvm.Cond.methodLink "RuleClassesModel" (86 : Nat) ({ cls := "RuleClassesModel", name := "isPlace", desc := "(II)Z" } : Jvm.MethodName)) ∈ TBL := mT (List.mem_append_right _ (List.mem_append_right _ (List.mem_append_right _ (List.mem_of_getElem? (i := 52) rfl)))) (by decide +kernel)
theorem m_773 : (Jvm.Cond.static ({ cls := "RuleClassesModel", name := "isPlace", desc := "(II)Z" } : Jvm.MethodName)) ∈ TBL := mT (List.mem_append_right _ (List.mem_append_right _ (List.mem_append_right _ (List.mem_of_getElem? (i := 53) rfl)))) (by decide +kernel)
theorem m_774 : (Jvm.Cond.code ({ cls := "RuleClassesModel", name := "isPlace", desc := "(II)Z" } : Jvm.MethodName) prog_6_method_5_code (2 : Nat) (Option.some Jvm.ClassFile.FieldType.boolean)) ∈ TBL := mT (List.mem_append_right _ (List.mem_append_right _ (List.mem_append_right _ (List.mem_of_getElem? (i := 54) rfl)))) (by decide +kernel)
theorem m_775 : (Jvm.Cond.methodLink "RuleClassesLaw" (102 : Nat) ({ cls := "RuleClassesModel", name := "op", desc := "(III)I" } : Jvm.MethodName)) ∈ TBL := mT (List.mem_append_right _ (List.mem_append_right _ (List.mem_append_right _ (List.mem_of_getElem? (i := 55) rfl)))) (by decide +kernel)
theorem m_776 : (Jvm.Cond.instanceMethod ({ cls := "RuleClassesModel", name := "op", desc := "(III)I" } : Jvm.MethodName)) ∈ TBL := mT (List.mem_append_right _ (List.mem_append_right _ (List.mem_append_right _ (List.mem_of_getElem? (i := 56) rfl)))) (by decide +kernel)
theorem m_777 : (Jvm.Cond.selects "RuleClassesModel" ({ cls := "RuleClassesModel", name := "op", desc := "(III)I" } : Jvm.MethodName) ({ cls := "RuleClassesModel", name := "op", desc := "(III)I" } : Jvm.MethodName)) ∈ TBL := mT (List.mem_append_right _ (List.mem_append_right _ (List.mem_append_right _ (List.mem_of_getElem? (i := 57) rfl)))) (by decide +kernel)
theorem m_778 : (Jvm.Cond.code ({ cls := "RuleClassesModel", name := "op", desc := "(III)I" } : Jvm.MethodName) prog_6_method_9_code (4 : Nat) (Option.some Jvm.ClassFile.FieldType.int)) ∈ TBL := mT (List.mem_append_right _ (List.mem_append_right _ (List.mem_append_right _ (List.mem_of_getElem? (i := 58) rfl)))) (by decide +kernel)
theorem m_779 : (Jvm.Cond.methodLink "RuleClassesModel" (90 : Nat) ({ cls := "RuleClassesModel", name := "isEdition", desc := "(I)Z" } : Jvm.MethodName)) ∈ TBL := mT (List.mem_append_right _ (List.mem_append_right _ (List.mem_append_right _ (List.mem_of_getElem? (i := 59) rfl)))) (by decide +kernel)
theorem m_781 : (Jvm.Cond.instanceMethod ({ cls := "RuleClassesModel", name := "isEdition", desc := "(I)Z" } : Jvm.MethodName)) ∈ TBL := mT (List.mem_append_right _ (List.mem_append_right _ (List.mem_append_right _ (List.mem_of_getElem? (i := 61) rfl)))) (by decide +kernel)
theorem m_782 : (Jvm.Cond.code ({ cls := "RuleClassesModel", name := "isEdition", desc := "(I)Z" } : Jvm.MethodName) prog_6_method_4_code (2 : Nat) (Option.some Jvm.ClassFile.FieldType.boolean)) ∈ TBL := mT (List.mem_append_right _ (List.mem_append_right _ (List.mem_append_right _ (List.mem_of_getElem? (i := 62) rfl)))) (by decide +kernel)
theorem m_783 : (Jvm.Cond.methodLink "RuleClassesModel" (94 : Nat) ({ cls := "RuleClassesModel", name := "isConstant", desc := "(II)Z" } : Jvm.MethodName)) ∈ TBL := mT (List.mem_append_right _ (List.mem_append_right _ (List.mem_append_right _ (List.mem_of_getElem? (i := 63) rfl)))) (by decide +kernel)
theorem m_784 : (Jvm.Cond.static ({ cls := "RuleClassesModel", name := "isConstant", desc := "(II)Z" } : Jvm.MethodName)) ∈ TBL := mT (List.mem_append_right _ (List.mem_append_right _ (List.mem_append_right _ (List.mem_of_getElem? (i := 64) rfl)))) (by decide +kernel)
theorem m_785 : (Jvm.Cond.code ({ cls := "RuleClassesModel", name := "isConstant", desc := "(II)Z" } : Jvm.MethodName) prog_6_method_8_code (2 : Nat) (Option.some Jvm.ClassFile.FieldType.boolean)) ∈ TBL := mT (List.mem_append_right _ (List.mem_append_right _ (List.mem_append_right _ (List.mem_of_getElem? (i := 65) rfl)))) (by decide +kernel)
theorem m_786 : (Jvm.Cond.methodLink "RuleClassesLaw" (106 : Nat) ({ cls := "RuleClassesModel", name := "make", desc := "(I)I" } : Jvm.MethodName)) ∈ TBL := mT (List.mem_append_right _ (List.mem_append_right _ (List.mem_append_right _ (List.mem_of_getElem? (i := 66) rfl)))) (by decide +kernel)
theorem m_787 : (Jvm.Cond.instanceMethod ({ cls := "RuleClassesModel", name := "make", desc := "(I)I" } : Jvm.MethodName)) ∈ TBL := mT (List.mem_append_right _ (List.mem_append_right _ (List.mem_append_right _ (List.mem_of_getElem? (i := 67) rfl)))) (by decide +kernel)
theorem m_788 : (Jvm.Cond.selects "RuleClassesModel" ({ cls := "RuleClassesModel", name := "make", desc := "(I)I" } : Jvm.MethodName) ({ cls := "RuleClassesModel", name := "make", desc := "(I)I" } : Jvm.MethodName)) ∈ TBL := mT (List.mem_append_right _ (List.mem_append_right _ (List.mem_append_right _ (List.mem_of_getElem? (i := 68) rfl)))) (by decide +kernel)
theorem m_789 : (Jvm.Cond.code ({ cls := "RuleClassesModel", name := "make", desc := "(I)I" } : Jvm.MethodName) prog_6_method_15_code (3 : Nat) (Option.some Jvm.ClassFile.FieldType.int)) ∈ TBL := mT (List.mem_append_right _ (List.mem_append_right _ (List.mem_append_right _ (List.mem_of_getElem? (i := 69) rfl)))) (by decide +kernel)
theorem m_790 : (Jvm.Cond.methodLink "RuleClassesModel" (125 : Nat) ({ cls := "RuleClassesModel", name := "giveFacts", desc := "()V" } : Jvm.MethodName)) ∈ TBL := mT (List.mem_append_right _ (List.mem_append_right _ (List.mem_append_right _ (List.mem_of_getElem? (i := 70) rfl)))) (by decide +kernel)
theorem m_792 : (Jvm.Cond.instanceMethod ({ cls := "RuleClassesModel", name := "giveFacts", desc := "()V" } : Jvm.MethodName)) ∈ TBL := mT (List.mem_append_right _ (List.mem_append_right _ (List.mem_append_right _ (List.mem_of_getElem? (i := 72) rfl)))) (by decide +kernel)
theorem m_793 : (Jvm.Cond.code ({ cls := "RuleClassesModel", name := "giveFacts", desc := "()V" } : Jvm.MethodName) prog_6_method_14_code (2 : Nat) (Option.none : Option Jvm.ClassFile.FieldType)) ∈ TBL := mT (List.mem_append_right _ (List.mem_append_right _ (List.mem_append_right _ (List.mem_of_getElem? (i := 73) rfl)))) (by decide +kernel)
theorem m_794 : (Jvm.Cond.methodLink "RuleClassesModel" (128 : Nat) ({ cls := "RuleClassesModel", name := "run", desc := "(I)I" } : Jvm.MethodName)) ∈ TBL := mT (List.mem_append_right _ (List.mem_append_right _ (List.mem_append_right _ (List.mem_of_getElem? (i := 74) rfl)))) (by decide +kernel)
theorem m_796 : (Jvm.Cond.instanceMethod ({ cls := "RuleClassesModel", name := "run", desc := "(I)I" } : Jvm.MethodName)) ∈ TBL := mT (List.mem_append_right _ (List.mem_append_right _ (List.mem_append_right _ (List.mem_of_getElem? (i := 76) rfl)))) (by decide +kernel)
theorem m_797 : (Jvm.Cond.code ({ cls := "RuleClassesModel", name := "run", desc := "(I)I" } : Jvm.MethodName) prog_6_method_13_code (3 : Nat) (Option.some Jvm.ClassFile.FieldType.int)) ∈ TBL := mT (List.mem_append_right _ (List.mem_append_right _ (List.mem_append_right _ (List.mem_of_getElem? (i := 77) rfl)))) (by decide +kernel)
theorem m_798 : (Jvm.Cond.methodLink "RuleClassesModel" (122 : Nat) ({ cls := "RuleClassesModel", name := "step", desc := "(I)I" } : Jvm.MethodName)) ∈ TBL := mT (List.mem_append_right _ (List.mem_append_right _ (List.mem_append_right _ (List.mem_of_getElem? (i := 78) rfl)))) (by decide +kernel)
theorem m_800 : (Jvm.Cond.instanceMethod ({ cls := "RuleClassesModel", name := "step", desc := "(I)I" } : Jvm.MethodName)) ∈ TBL := mT (List.mem_append_right _ (List.mem_append_right _ (List.mem_append_right _ (List.mem_of_getElem? (i := 80) rfl)))) (by decide +kernel)
theorem m_801 : (Jvm.Cond.code ({ cls := "RuleClassesModel", name := "step", desc := "(I)I" } : Jvm.MethodName) prog_6_method_12_code (10 : Nat) (Option.some Jvm.ClassFile.FieldType.int)) ∈ TBL := mT (List.mem_append_right _ (List.mem_append_right _ (List.mem_append_right _ (List.mem_of_getElem? (i := 81) rfl)))) (by decide +kernel)
theorem m_802 : (Jvm.Cond.methodLink "RuleClassesModel" (106 : Nat) ({ cls := "RuleClassesModel", name := "takes", desc := "(I)I" } : Jvm.MethodName)) ∈ TBL := mT (List.mem_append_right _ (List.mem_append_right _ (List.mem_append_right _ (List.mem_of_getElem? (i := 82) rfl)))) (by decide +kernel)
theorem m_803 : (Jvm.Cond.static ({ cls := "RuleClassesModel", name := "takes", desc := "(I)I" } : Jvm.MethodName)) ∈ TBL := mT (List.mem_append_right _ (List.mem_append_right _ (List.mem_append_right _ (List.mem_of_getElem? (i := 83) rfl)))) (by decide +kernel)
theorem m_804 : (Jvm.Cond.code ({ cls := "RuleClassesModel", name := "takes", desc := "(I)I" } : Jvm.MethodName) prog_6_method_10_code (1 : Nat) (Option.some Jvm.ClassFile.FieldType.int)) ∈ TBL := mT (List.mem_append_right _ (List.mem_append_right _ (List.mem_append_right _ (List.mem_of_getElem? (i := 84) rfl)))) (by decide +kernel)
theorem m_805 : (Jvm.Cond.methodLink "RuleClassesModel" (114 : Nat) ({ cls := "RuleClassesModel", name := "valueOf", desc := "(IIIJJ)J" } : Jvm.MethodName)) ∈ TBL := mT (List.mem_append_right _ (List.mem_append_right _ (List.mem_append_right _ (List.mem_of_getElem? (i := 85) rfl)))) (by decide +kernel)
theorem m_807 : (Jvm.Cond.instanceMethod ({ cls := "RuleClassesModel", name := "valueOf", desc := "(IIIJJ)J" } : Jvm.MethodName)) ∈ TBL := mT (List.mem_append_right _ (List.mem_append_right _ (List.mem_append_right _ (List.mem_of_getElem? (i := 87) rfl)))) (by decide +kernel)
theorem m_808 : (Jvm.Cond.code ({ cls := "RuleClassesModel", name := "valueOf", desc := "(IIIJJ)J" } : Jvm.MethodName) prog_6_method_11_code (8 : Nat) (Option.some Jvm.ClassFile.FieldType.long)) ∈ TBL := mT (List.mem_append_right _ (List.mem_append_right _ (List.mem_append_right _ (List.mem_of_getElem? (i := 88) rfl)))) (by decide +kernel)
theorem m_809 : (Jvm.Cond.constantLong "RuleClassesModel" (118 : Nat) (-1000000000 : Int64)) ∈ TBL := mT (List.mem_append_right _ (List.mem_append_right _ (List.mem_append_right _ (List.mem_of_getElem? (i := 89) rfl)))) (by decide +kernel)
theorem m_810 : (Jvm.Cond.constantLong "RuleClassesModel" (120 : Nat) (1000000000 : Int64)) ∈ TBL := mT (List.mem_append_right _ (List.mem_append_right _ (List.mem_append_right _ (List.mem_of_getElem? (i := 90) rfl)))) (by decide +kernel)
theorem m_811 : (Jvm.Cond.methodLink "RuleClassesLaw" (110 : Nat) ({ cls := "RuleClassesModel", name := "fact", desc := "(II)V" } : Jvm.MethodName)) ∈ TBL := mT (List.mem_append_right _ (List.mem_append_right _ (List.mem_append_right _ (List.mem_of_getElem? (i := 91) rfl)))) (by decide +kernel)
theorem m_812 : (Jvm.Cond.instanceMethod ({ cls := "RuleClassesModel", name := "fact", desc := "(II)V" } : Jvm.MethodName)) ∈ TBL := mT (List.mem_append_right _ (List.mem_append_right _ (List.mem_append_right _ (List.mem_of_getElem? (i := 92) rfl)))) (by decide +kernel)
theorem m_813 : (Jvm.Cond.selects "RuleClassesModel" ({ cls := "RuleClassesModel", name := "fact", desc := "(II)V" } : Jvm.MethodName) ({ cls := "RuleClassesModel", name := "fact", desc := "(II)V" } : Jvm.MethodName)) ∈ TBL := mT (List.mem_append_right _ (List.mem_append_right _ (List.mem_append_right _ (List.mem_of_getElem? (i := 93) rfl)))) (by decide +kernel)
theorem m_814 : (Jvm.Cond.code ({ cls := "RuleClassesModel", name := "fact", desc := "(II)V" } : Jvm.MethodName) prog_6_method_16_code (3 : Nat) (Option.none : Option Jvm.ClassFile.FieldType)) ∈ TBL := mT (List.mem_append_right _ (List.mem_append_right _ (List.mem_append_right _ (List.mem_of_getElem? (i := 94) rfl)))) (by decide +kernel)
theorem m_815 : (Jvm.Cond.methodLink "RuleClassesLaw" (114 : Nat) ({ cls := "RuleClassesModel", name := "ask", desc := "(II)I" } : Jvm.MethodName)) ∈ TBL := mT (List.mem_append_right _ (List.mem_append_right _ (List.mem_append_right _ (List.mem_of_getElem? (i := 95) rfl)))) (by decide +kernel)
theorem m_816 : (Jvm.Cond.instanceMethod ({ cls := "RuleClassesModel", name := "ask", desc := "(II)I" } : Jvm.MethodName)) ∈ TBL := mT (List.mem_append_right _ (List.mem_append_right _ (List.mem_append_right _ (List.mem_of_getElem? (i := 96) rfl)))) (by decide +kernel)
theorem m_817 : (Jvm.Cond.selects "RuleClassesModel" ({ cls := "RuleClassesModel", name := "ask", desc := "(II)I" } : Jvm.MethodName) ({ cls := "RuleClassesModel", name := "ask", desc := "(II)I" } : Jvm.MethodName)) ∈ TBL := mT (List.mem_append_right _ (List.mem_append_right _ (List.mem_append_right _ (List.mem_of_getElem? (i := 97) rfl)))) (by decide +kernel)
theorem m_818 : (Jvm.Cond.code ({ cls := "RuleClassesModel", name := "ask", desc := "(II)I" } : Jvm.MethodName) prog_6_method_19_code (6 : Nat) (Option.some Jvm.ClassFile.FieldType.int)) ∈ TBL := mT (List.mem_append_right _ (List.mem_append_right _ (List.mem_append_right _ (List.mem_of_getElem? (i := 98) rfl)))) (by decide +kernel)
theorem m_819 : (Jvm.Cond.methodLink "RuleClassesModel" (134 : Nat) ({ cls := "RuleClassesModel", name := "counts", desc := "(III)I" } : Jvm.MethodName)) ∈ TBL := mT (List.mem_append_right _ (List.mem_append_right _ (List.mem_append_right _ (List.mem_of_getElem? (i := 99) rfl)))) (by decide +kernel)
theorem m_821 : (Jvm.Cond.instanceMethod ({ cls := "RuleClassesModel", name := "counts", desc := "(III)I" } : Jvm.MethodName)) ∈ TBL := mT (List.mem_append_right _ (List.mem_append_right _ (List.mem_append_right _ (List.mem_of_getElem? (i := 101) rfl)))) (by decide +kernel)
theorem m_822 : (Jvm.Cond.code ({ cls := "RuleClassesModel", name := "counts", desc := "(III)I" } : Jvm.MethodName) prog_6_method_17_code (6 : Nat) (Option.some Jvm.ClassFile.FieldType.int)) ∈ TBL := mT (List.mem_append_right _ (List.mem_append_right _ (List.mem_append_right _ (List.mem_of_getElem? (i := 102) rfl)))) (by decide +kernel)
theorem m_823 : (Jvm.Cond.methodLink "RuleClassesModel" (138 : Nat) ({ cls := "RuleClassesModel", name := "askedOf", desc := "(III)I" } : Jvm.MethodName)) ∈ TBL := mT (List.mem_append_right _ (List.mem_append_right _ (List.mem_append_right _ (List.mem_of_getElem? (i := 103) rfl)))) (by decide +kernel)
theorem m_825 : (Jvm.Cond.instanceMethod ({ cls := "RuleClassesModel", name := "askedOf", desc := "(III)I" } : Jvm.MethodName)) ∈ TBL := mT (List.mem_append_right _ (List.mem_append_right _ (List.mem_append_right _ (List.mem_of_getElem? (i := 105) rfl)))) (by decide +kernel)
theorem m_826 : (Jvm.Cond.code ({ cls := "RuleClassesModel", name := "askedOf", desc := "(III)I" } : Jvm.MethodName) prog_6_method_18_code (5 : Nat) (Option.some Jvm.ClassFile.FieldType.int)) ∈ TBL := mT (List.mem_append_right _ (List.mem_append_right _ (List.mem_append_right _ (List.mem_of_getElem? (i := 106) rfl)))) (by decide +kernel)
theorem m_827 : (Jvm.Cond.methodLink "RuleClassesLaw" (117 : Nat) ({ cls := "RuleClassesModel", name := "fallback", desc := "(II)V" } : Jvm.MethodName)) ∈ TBL := mT (List.mem_append_right _ (List.mem_append_right _ (List.mem_append_right _ (List.mem_of_getElem? (i := 107) rfl)))) (by decide +kernel)
theorem m_828 : (Jvm.Cond.instanceMethod ({ cls := "RuleClassesModel", name := "fallback", desc := "(II)V" } : Jvm.MethodName)) ∈ TBL := mT (List.mem_append_right _ (List.mem_append_right _ (List.mem_append_right _ (List.mem_of_getElem? (i := 108) rfl)))) (by decide +kernel)
theorem m_829 : (Jvm.Cond.selects "RuleClassesModel" ({ cls := "RuleClassesModel", name := "fallback", desc := "(II)V" } : Jvm.MethodName) ({ cls := "RuleClassesModel", name := "fallback", desc := "(II)V" } : Jvm.MethodName)) ∈ TBL := mT (List.mem_append_right _ (List.mem_append_right _ (List.mem_append_right _ (List.mem_of_getElem? (i := 109) rfl)))) (by decide +kernel)
theorem m_830 : (Jvm.Cond.code ({ cls := "RuleClassesModel", name := "fallback", desc := "(II)V" } : Jvm.MethodName) prog_6_method_20_code (3 : Nat) (Option.none : Option Jvm.ClassFile.FieldType)) ∈ TBL := mT (List.mem_append_right _ (List.mem_append_right _ (List.mem_append_right _ (List.mem_of_getElem? (i := 110) rfl)))) (by decide +kernel)
theorem m_831 : (Jvm.Cond.methodLink "RuleClassesLaw" (120 : Nat) ({ cls := "RuleClassesModel", name := "edition", desc := "(III)I" } : Jvm.MethodName)) ∈ TBL := mT (List.mem_append_right _ (List.mem_append_right _ (List.mem_append_right _ (List.mem_of_getElem? (i := 111) rfl)))) (by decide +kernel)
theorem m_832 : (Jvm.Cond.instanceMethod ({ cls := "RuleClassesModel", name := "edition", desc := "(III)I" } : Jvm.MethodName)) ∈ TBL := mT (List.mem_append_right _ (List.mem_append_right _ (List.mem_append_right _ (List.mem_of_getElem? (i := 112) rfl)))) (by decide +kernel)
theorem m_833 : (Jvm.Cond.selects "RuleClassesModel" ({ cls := "RuleClassesModel", name := "edition", desc := "(III)I" } : Jvm.MethodName) ({ cls := "RuleClassesModel", name := "edition", desc := "(III)I" } : Jvm.MethodName)) ∈ TBL := mT (List.mem_append_right _ (List.mem_append_right _ (List.mem_append_right _ (List.mem_of_getElem? (i := 113) rfl)))) (by decide +kernel)
theorem m_834 : (Jvm.Cond.code ({ cls := "RuleClassesModel", name := "edition", desc := "(III)I" } : Jvm.MethodName) prog_6_method_21_code (4 : Nat) (Option.some Jvm.ClassFile.FieldType.int)) ∈ TBL := mT (List.mem_append_right _ (List.mem_append_right _ (List.mem_append_right _ (List.mem_of_getElem? (i := 114) rfl)))) (by decide +kernel)
theorem m_835 : (Jvm.Cond.methodLink "RuleClassesLaw" (123 : Nat) ({ cls := "RuleClassesModel", name := "failed", desc := "(II)I" } : Jvm.MethodName)) ∈ TBL := mT (List.mem_append_right _ (List.mem_append_right _ (List.mem_append_right _ (List.mem_of_getElem? (i := 115) rfl)))) (by decide +kernel)
theorem m_836 : (Jvm.Cond.instanceMethod ({ cls := "RuleClassesModel", name := "failed", desc := "(II)I" } : Jvm.MethodName)) ∈ TBL := mT (List.mem_append_right _ (List.mem_append_right _ (List.mem_append_right _ (List.mem_of_getElem? (i := 116) rfl)))) (by decide +kernel)
theorem m_837 : (Jvm.Cond.selects "RuleClassesModel" ({ cls := "RuleClassesModel", name := "failed", desc := "(II)I" } : Jvm.MethodName) ({ cls := "RuleClassesModel", name := "failed", desc := "(II)I" } : Jvm.MethodName)) ∈ TBL := mT (List.mem_append_right _ (List.mem_append_right _ (List.mem_append_right _ (List.mem_of_getElem? (i := 117) rfl)))) (by decide +kernel)
theorem m_838 : (Jvm.Cond.code ({ cls := "RuleClassesModel", name := "failed", desc := "(II)I" } : Jvm.MethodName) prog_6_method_22_code (3 : Nat) (Option.some Jvm.ClassFile.FieldType.int)) ∈ TBL := mT (List.mem_append_right _ (List.mem_append_right _ (List.mem_append_right _ (List.mem_of_getElem? (i := 118) rfl)))) (by decide +kernel)
theorem m_839 : (Jvm.Cond.methodLink "RuleClassesLaw" (126 : Nat) ({ cls := "RuleClassesModel", name := "handle", desc := "(I)I" } : Jvm.MethodName)) ∈ TBL := mT (List.mem_append_right _ (List.mem_append_right _ (List.mem_append_right _ (List.mem_of_getElem? (i := 119) rfl)))) (by decide +kernel)
theorem m_840 : (Jvm.Cond.instanceMethod ({ cls := "RuleClassesModel", name := "handle", desc := "(I)I" } : Jvm.MethodName)) ∈ TBL := mT (List.mem_append_right _ (List.mem_append_right _ (List.mem_append_right _ (List.mem_of_getElem? (i := 120) rfl)))) (by decide +kernel)
theorem m_841 : (Jvm.Cond.selects "RuleClassesModel" ({ cls := "RuleClassesModel", name := "handle", desc := "(I)I" } : Jvm.MethodName) ({ cls := "RuleClassesModel", name := "handle", desc := "(I)I" } : Jvm.MethodName)) ∈ TBL := mT (List.mem_append_right _ (List.mem_append_right _ (List.mem_append_right _ (List.mem_of_getElem? (i := 121) rfl)))) (by decide +kernel)
theorem m_842 : (Jvm.Cond.code ({ cls := "RuleClassesModel", name := "handle", desc := "(I)I" } : Jvm.MethodName) prog_6_method_23_code (2 : Nat) (Option.some Jvm.ClassFile.FieldType.int)) ∈ TBL := mT (List.mem_append_right _ (List.mem_append_right _ (List.mem_append_right _ (List.mem_of_getElem? (i := 122) rfl)))) (by decide +kernel)
theorem m_843 : (Jvm.Cond.methodLink "RuleClassesLaw" (129 : Nat) ({ cls := "RuleClassesModel", name := "by", desc := "(I)I" } : Jvm.MethodName)) ∈ TBL := mT (List.mem_append_right _ (List.mem_append_right _ (List.mem_append_right _ (List.mem_of_getElem? (i := 123) rfl)))) (by decide +kernel)
theorem m_844 : (Jvm.Cond.instanceMethod ({ cls := "RuleClassesModel", name := "by", desc := "(I)I" } : Jvm.MethodName)) ∈ TBL := mT (List.mem_append_right _ (List.mem_append_right _ (List.mem_append_right _ (List.mem_of_getElem? (i := 124) rfl)))) (by decide +kernel)
theorem m_845 : (Jvm.Cond.selects "RuleClassesModel" ({ cls := "RuleClassesModel", name := "by", desc := "(I)I" } : Jvm.MethodName) ({ cls := "RuleClassesModel", name := "by", desc := "(I)I" } : Jvm.MethodName)) ∈ TBL := mT (List.mem_append_right _ (List.mem_append_right _ (List.mem_append_right _ (List.mem_of_getElem? (i := 125) rfl)))) (by decide +kernel)
theorem m_846 : (Jvm.Cond.code ({ cls := "RuleClassesModel", name := "by", desc := "(I)I" } : Jvm.MethodName) prog_6_method_24_code (2 : Nat) (Option.some Jvm.ClassFile.FieldType.int)) ∈ TBL := mT (List.mem_append_right _ (List.mem_append_right _ (List.mem_append_right _ (List.mem_of_getElem? (i := 126) rfl)))) (by decide +kernel)
theorem m_847 : (Jvm.Cond.methodLink "RuleClassesLaw" (133 : Nat) ({ cls := "RuleClassesModel", name := "keep", desc := "()I" } : Jvm.MethodName)) ∈ TBL := mT (List.mem_append_right _ (List.mem_append_right _ (List.mem_append_right _ (List.mem_of_getElem? (i := 127) rfl)))) (by decide +kernel)
theorem m_848 : (Jvm.Cond.instanceMethod ({ cls := "RuleClassesModel", name := "keep", desc := "()I" } : Jvm.MethodName)) ∈ TBL := mT (List.mem_append_right _ (List.mem_append_right _ (List.mem_append_right _ (List.mem_of_getElem? (i := 128) rfl)))) (by decide +kernel)
theorem m_849 : (Jvm.Cond.selects "RuleClassesModel" ({ cls := "RuleClassesModel", name := "keep", desc := "()I" } : Jvm.MethodName) ({ cls := "RuleClassesModel", name := "keep", desc := "()I" } : Jvm.MethodName)) ∈ TBL := mT (List.mem_append_right _ (List.mem_append_right _ (List.mem_append_right _ (List.mem_of_getElem? (i := 129) rfl)))) (by decide +kernel)
theorem m_850 : (Jvm.Cond.code ({ cls := "RuleClassesModel", name := "keep", desc := "()I" } : Jvm.MethodName) prog_6_method_25_code (2 : Nat) (Option.some Jvm.ClassFile.FieldType.int)) ∈ TBL := mT (List.mem_append_right _ (List.mem_append_right _ (List.mem_append_right _ (List.mem_of_getElem? (i := 130) rfl)))) (by decide +kernel)
theorem m_851 : (Jvm.Cond.methodLink "RuleClassesLaw" (136 : Nat) ({ cls := "RuleClassesModel", name := "compare", desc := "(II)I" } : Jvm.MethodName)) ∈ TBL := mT (List.mem_append_right _ (List.mem_append_right _ (List.mem_append_right _ (List.mem_of_getElem? (i := 131) rfl)))) (by decide +kernel)
theorem m_852 : (Jvm.Cond.instanceMethod ({ cls := "RuleClassesModel", name := "compare", desc := "(II)I" } : Jvm.MethodName)) ∈ TBL := mT (List.mem_append_right _ (List.mem_append_right _ (List.mem_append_right _ (List.mem_of_getElem? (i := 132) rfl)))) (by decide +kernel)
theorem m_853 : (Jvm.Cond.selects "RuleClassesModel" ({ cls := "RuleClassesModel", name := "compare", desc := "(II)I" } : Jvm.MethodName) ({ cls := "RuleClassesModel", name := "compare", desc := "(II)I" } : Jvm.MethodName)) ∈ TBL := mT (List.mem_append_right _ (List.mem_append_right _ (List.mem_append_right _ (List.mem_of_getElem? (i := 133) rfl)))) (by decide +kernel)
theorem m_854 : (Jvm.Cond.code ({ cls := "RuleClassesModel", name := "compare", desc := "(II)I" } : Jvm.MethodName) prog_6_method_26_code (9 : Nat) (Option.some Jvm.ClassFile.FieldType.int)) ∈ TBL := mT (List.mem_append_right _ (List.mem_append_right _ (List.mem_append_right _ (List.mem_of_getElem? (i := 134) rfl)))) (by decide +kernel)
theorem m_855 : (Jvm.Cond.methodLink "RuleClassesLaw" (139 : Nat) ({ cls := "RuleClassesModel", name := "same", desc := "(II)Z" } : Jvm.MethodName)) ∈ TBL := mT (List.mem_append_right _ (List.mem_append_right _ (List.mem_append_right _ (List.mem_of_getElem? (i := 135) rfl)))) (by decide +kernel)
theorem m_856 : (Jvm.Cond.instanceMethod ({ cls := "RuleClassesModel", name := "same", desc := "(II)Z" } : Jvm.MethodName)) ∈ TBL := mT (List.mem_append_right _ (List.mem_append_right _ (List.mem_append_right _ (List.mem_of_getElem? (i := 136) rfl)))) (by decide +kernel)
theorem m_857 : (Jvm.Cond.selects "RuleClassesModel" ({ cls := "RuleClassesModel", name := "same", desc := "(II)Z" } : Jvm.MethodName) ({ cls := "RuleClassesModel", name := "same", desc := "(II)Z" } : Jvm.MethodName)) ∈ TBL := mT (List.mem_append_right _ (List.mem_append_right _ (List.mem_append_right _ (List.mem_of_getElem? (i := 137) rfl)))) (by decide +kernel)
theorem m_858 : (Jvm.Cond.code ({ cls := "RuleClassesModel", name := "same", desc := "(II)Z" } : Jvm.MethodName) prog_6_method_27_code (4 : Nat) (Option.some Jvm.ClassFile.FieldType.boolean)) ∈ TBL := mT (List.mem_append_right _ (List.mem_append_right _ (List.mem_append_right _ (List.mem_of_getElem? (i := 138) rfl)))) (by decide +kernel)
theorem m_859 : (Jvm.Cond.methodLink "RuleClassesLaw" (143 : Nat) ({ cls := "RuleClassesModel", name := "shadow", desc := "(III)V" } : Jvm.MethodName)) ∈ TBL := mT (List.mem_append_right _ (List.mem_append_right _ (List.mem_append_right _ (List.mem_of_getElem? (i := 139) rfl)))) (by decide +kernel)
theorem m_860 : (Jvm.Cond.instanceMethod ({ cls := "RuleClassesModel", name := "shadow", desc := "(III)V" } : Jvm.MethodName)) ∈ TBL := mT (List.mem_append_right _ (List.mem_append_right _ (List.mem_append_right _ (List.mem_of_getElem? (i := 140) rfl)))) (by decide +kernel)
theorem m_861 : (Jvm.Cond.selects "RuleClassesModel" ({ cls := "RuleClassesModel", name := "shadow", desc := "(III)V" } : Jvm.MethodName) ({ cls := "RuleClassesModel", name := "shadow", desc := "(III)V" } : Jvm.MethodName)) ∈ TBL := mT (List.mem_append_right _ (List.mem_append_right _ (List.mem_append_right _ (List.mem_of_getElem? (i := 141) rfl)))) (by decide +kernel)
theorem m_862 : (Jvm.Cond.code ({ cls := "RuleClassesModel", name := "shadow", desc := "(III)V" } : Jvm.MethodName) prog_6_method_28_code (4 : Nat) (Option.none : Option Jvm.ClassFile.FieldType)) ∈ TBL := mT (List.mem_append_right _ (List.mem_append_right _ (List.mem_append_right _ (List.mem_of_getElem? (i := 142) rfl)))) (by decide +kernel)
theorem m_863 : (Jvm.Cond.methodLink "RuleClassesLaw" (146 : Nat) ({ cls := "RuleClassesModel", name := "otherwise", desc := "(II)I" } : Jvm.MethodName)) ∈ TBL := mT (List.mem_append_right _ (List.mem_append_right _ (List.mem_append_right _ (List.mem_of_getElem? (i := 143) rfl)))) (by decide +kernel)
theorem m_864 : (Jvm.Cond.instanceMethod ({ cls := "RuleClassesModel", name := "otherwise", desc := "(II)I" } : Jvm.MethodName)) ∈ TBL := mT (List.mem_append_right _ (List.mem_append_right _ (List.mem_append_right _ (List.mem_of_getElem? (i := 144) rfl)))) (by decide +kernel)
theorem m_865 : (Jvm.Cond.selects "RuleClassesModel" ({ cls := "RuleClassesModel", name := "otherwise", desc := "(II)I" } : Jvm.MethodName) ({ cls := "RuleClassesModel", name := "otherwise", desc := "(II)I" } : Jvm.MethodName)) ∈ TBL := mT (List.mem_append_right _ (List.mem_append_right _ (List.mem_append_right _ (List.mem_of_getElem? (i := 145) rfl)))) (by decide +kernel)
theorem m_866 : (Jvm.Cond.code ({ cls := "RuleClassesModel", name := "otherwise", desc := "(II)I" } : Jvm.MethodName) prog_6_method_29_code (3 : Nat) (Option.some Jvm.ClassFile.FieldType.int)) ∈ TBL := mT (List.mem_append_right _ (List.mem_append_right _ (List.mem_append_right _ (List.mem_of_getElem? (i := 146) rfl)))) (by decide +kernel)
theorem m_867 : (Jvm.Cond.methodLink "RuleClassesLaw" (149 : Nat) ({ cls := "RuleClassesModel", name := "divide", desc := "(II)I" } : Jvm.MethodName)) ∈ TBL := mT (List.mem_append_right _ (List.mem_append_right _ (List.mem_append_right _ (List.mem_of_getElem? (i := 147) rfl)))) (by decide +kernel)
theorem m_868 : (Jvm.Cond.instanceMethod ({ cls := "RuleClassesModel", name := "divide", desc := "(II)I" } : Jvm.MethodName)) ∈ TBL := mT (List.mem_append_right _ (List.mem_append_right _ (List.mem_append_right _ (List.mem_of_getElem? (i := 148) rfl)))) (by decide +kernel)
theorem m_869 : (Jvm.Cond.selects "RuleClassesModel" ({ cls := "RuleClassesModel", name := "divide", desc := "(II)I" } : Jvm.MethodName) ({ cls := "RuleClassesModel", name := "divide", desc := "(II)I" } : Jvm.MethodName)) ∈ TBL := mT (List.mem_append_right _ (List.mem_append_right _ (List.mem_append_right _ (List.mem_of_getElem? (i := 149) rfl)))) (by decide +kernel)
theorem m_870 : (Jvm.Cond.code ({ cls := "RuleClassesModel", name := "divide", desc := "(II)I" } : Jvm.MethodName) prog_6_method_30_code (3 : Nat) (Option.some Jvm.ClassFile.FieldType.int)) ∈ TBL := mT (List.mem_append_right _ (List.mem_append_right _ (List.mem_append_right _ (List.mem_of_getElem? (i := 150) rfl)))) (by decide +kernel)
theorem m_871 : (Jvm.Cond.methodLink "RuleClassesLaw" (152 : Nat) ({ cls := "RuleClassesModel", name := "told", desc := "(II)I" } : Jvm.MethodName)) ∈ TBL := mT (List.mem_append_right _ (List.mem_append_right _ (List.mem_append_right _ (List.mem_of_getElem? (i := 151) rfl)))) (by decide +kernel)
theorem m_872 : (Jvm.Cond.instanceMethod ({ cls := "RuleClassesModel", name := "told", desc := "(II)I" } : Jvm.MethodName)) ∈ TBL := mT (List.mem_append_right _ (List.mem_append_right _ (List.mem_append_right _ (List.mem_of_getElem? (i := 152) rfl)))) (by decide +kernel)
theorem m_873 : (Jvm.Cond.selects "RuleClassesModel" ({ cls := "RuleClassesModel", name := "told", desc := "(II)I" } : Jvm.MethodName) ({ cls := "RuleClassesModel", name := "told", desc := "(II)I" } : Jvm.MethodName)) ∈ TBL := mT (List.mem_append_right _ (List.mem_append_right _ (List.mem_append_right _ (List.mem_of_getElem? (i := 153) rfl)))) (by decide +kernel)
theorem m_874 : (Jvm.Cond.code ({ cls := "RuleClassesModel", name := "told", desc := "(II)I" } : Jvm.MethodName) prog_6_method_31_code (3 : Nat) (Option.some Jvm.ClassFile.FieldType.int)) ∈ TBL := mT (List.mem_append_right _ (List.mem_append_right _ (List.mem_append_right _ (List.mem_of_getElem? (i := 154) rfl)))) (by decide +kernel)
theorem m_875 : (Jvm.Cond.methodLink "RuleClassesLaw" (156 : Nat) ({ cls := "RuleClassesModel", name := "count", desc := "(I)I" } : Jvm.MethodName)) ∈ TBL := mT (List.mem_append_right _ (List.mem_append_right _ (List.mem_append_right _ (List.mem_of_getElem? (i := 155) rfl)))) (by decide +kernel)
theorem m_876 : (Jvm.Cond.instanceMethod ({ cls := "RuleClassesModel", name := "count", desc := "(I)I" } : Jvm.MethodName)) ∈ TBL := mT (List.mem_append_right _ (List.mem_append_right _ (List.mem_append_right _ (List.mem_of_getElem? (i := 156) rfl)))) (by decide +kernel)
theorem m_877 : (Jvm.Cond.selects "RuleClassesModel" ({ cls := "RuleClassesModel", name := "count", desc := "(I)I" } : Jvm.MethodName) ({ cls := "RuleClassesModel", name := "count", desc := "(I)I" } : Jvm.MethodName)) ∈ TBL := mT (List.mem_append_right _ (List.mem_append_right _ (List.mem_append_right _ (List.mem_of_getElem? (i := 157) rfl)))) (by decide +kernel)
theorem m_878 : (Jvm.Cond.code ({ cls := "RuleClassesModel", name := "count", desc := "(I)I" } : Jvm.MethodName) prog_6_method_32_code (4 : Nat) (Option.some Jvm.ClassFile.FieldType.int)) ∈ TBL := mT (List.mem_append_right _ (List.mem_append_right _ (List.mem_append_right _ (List.mem_of_getElem? (i := 158) rfl)))) (by decide +kernel)
theorem m_883 : (Jvm.Cond.selects "[Ljava/lang/Object;" ({ cls := "java/lang/Object", name := "getClass", desc := "()Ljava/lang/Class;" } : Jvm.MethodName) ({ cls := "java/lang/Object", name := "getClass", desc := "()Ljava/lang/Class;" } : Jvm.MethodName)) ∈ TBL := mT (List.mem_append_right _ (List.mem_append_right _ (List.mem_append_right _ (List.mem_of_getElem? (i := 163) rfl)))) (by decide +kernel)
theorem sl_C_madeEditions : Cond.selects "RuleClasses" y_C_madeEditions y_C_madeEditions ∈ TBL := mS (q := (y_C_madeEditions, 15)) (List.mem_of_getElem? (i := 0) rfl) (by decide +kernel)
theorem sl_C_failedQuestions : Cond.selects "RuleClasses" y_C_failedQuestions y_C_failedQuestions ∈ TBL := mS (q := (y_C_failedQuestions, 15)) (List.mem_of_getElem? (i := 1) rfl) (by decide +kernel)
theorem sl_C_endHandle : Cond.selects "RuleClasses" y_C_endHandle y_C_endHandle ∈ TBL := mS (q := (y_C_endHandle, 15)) (List.mem_of_getElem? (i := 3) rfl) (by decide +kernel)
theorem sl_A_add2 : Cond.selects "java/util/ArrayList" y_A_add2 y_A_add2 ∈ TBL := mS (q := (y_A_add2, 3)) (List.mem_of_getElem? (i := 4) rfl) (by decide +kernel)
theorem sl_A_grow : Cond.selects "java/util/ArrayList" y_A_grow y_A_grow ∈ TBL := mS (q := (y_A_grow, 3)) (List.mem_of_getElem? (i := 5) rfl) (by decide +kernel)
theorem sl_A_grow2 : Cond.selects "java/util/ArrayList" y_A_grow2 y_A_grow2 ∈ TBL := mS (q := (y_A_grow2, 3)) (List.mem_of_getElem? (i := 6) rfl) (by decide +kernel)
theorem sl_C_editionAt : Cond.selects "RuleClasses" y_C_editionAt y_C_editionAt ∈ TBL := mS (q := (y_C_editionAt, 15)) (List.mem_of_getElem? (i := 7) rfl) (by decide +kernel)
theorem sl_C_requireEdition : Cond.selects "RuleClasses" y_C_requireEdition y_C_requireEdition ∈ TBL := mS (q := (y_C_requireEdition, 15)) (List.mem_of_getElem? (i := 8) rfl) (by decide +kernel)
theorem sl_U_clear : Cond.selects "RuleClasses$Run" y_U_clear y_U_clear ∈ TBL := mS (q := (y_U_clear, 7)) (List.mem_of_getElem? (i := 9) rfl) (by decide +kernel)
theorem sl_U_outcomeOf : Cond.selects "RuleClasses$Run" y_U_outcomeOf y_U_outcomeOf ∈ TBL := mS (q := (y_U_outcomeOf, 7)) (List.mem_of_getElem? (i := 10) rfl) (by decide +kernel)
theorem sl_U_step : Cond.selects "RuleClasses$Run" y_U_step y_U_step ∈ TBL := mS (q := (y_U_step, 7)) (List.mem_of_getElem? (i := 11) rfl) (by decide +kernel)
theorem sl_U_put : Cond.selects "RuleClasses$Run" y_U_put y_U_put ∈ TBL := mS (q := (y_U_put, 7)) (List.mem_of_getElem? (i := 12) rfl) (by decide +kernel)
theorem sl_U_take : Cond.selects "RuleClasses$Run" y_U_take y_U_take ∈ TBL := mS (q := (y_U_take, 7)) (List.mem_of_getElem? (i := 13) rfl) (by decide +kernel)
theorem sl_U_join : Cond.selects "RuleClasses$Run" y_U_join y_U_join ∈ TBL := mS (q := (y_U_join, 7)) (List.mem_of_getElem? (i := 14) rfl) (by decide +kernel)
theorem sl_C_countingEdition : Cond.selects "RuleClasses" y_C_countingEdition y_C_countingEdition ∈ TBL := mS (q := (y_C_countingEdition, 15)) (List.mem_of_getElem? (i := 15) rfl) (by decide +kernel)
theorem sl_C_runShadow : Cond.selects "RuleClasses" y_C_runShadow y_C_runShadow ∈ TBL := mS (q := (y_C_runShadow, 15)) (List.mem_of_getElem? (i := 16) rfl) (by decide +kernel)
theorem sl_M_isEdition : Cond.selects "RuleClassesModel" y_M_isEdition y_M_isEdition ∈ TBL := mS (q := (y_M_isEdition, 30)) (List.mem_of_getElem? (i := 17) rfl) (by decide +kernel)
theorem sl_M_giveFacts : Cond.selects "RuleClassesModel" y_M_giveFacts y_M_giveFacts ∈ TBL := mS (q := (y_M_giveFacts, 30)) (List.mem_of_getElem? (i := 18) rfl) (by decide +kernel)
theorem sl_M_run : Cond.selects "RuleClassesModel" y_M_run y_M_run ∈ TBL := mS (q := (y_M_run, 30)) (List.mem_of_getElem? (i := 19) rfl) (by decide +kernel)
theorem sl_M_step : Cond.selects "RuleClassesModel" y_M_step y_M_step ∈ TBL := mS (q := (y_M_step, 30)) (List.mem_of_getElem? (i := 20) rfl) (by decide +kernel)
theorem sl_M_valueOf : Cond.selects "RuleClassesModel" y_M_valueOf y_M_valueOf ∈ TBL := mS (q := (y_M_valueOf, 30)) (List.mem_of_getElem? (i := 21) rfl) (by decide +kernel)
theorem sl_M_counts : Cond.selects "RuleClassesModel" y_M_counts y_M_counts ∈ TBL := mS (q := (y_M_counts, 30)) (List.mem_of_getElem? (i := 22) rfl) (by decide +kernel)
theorem sl_M_askedOf : Cond.selects "RuleClassesModel" y_M_askedOf y_M_askedOf ∈ TBL := mS (q := (y_M_askedOf, 30)) (List.mem_of_getElem? (i := 23) rfl) (by decide +kernel)
def CSP : List (String × String) := [("java/lang/IllegalArgumentException", "java/lang/IllegalArgumentException"), ("java/lang/UnsupportedOperationException", "java/lang/UnsupportedOperationException"), ("java/util/NoSuchElementException", "java/util/NoSuchElementException"), ("java/lang/IllegalStateException", "java/lang/IllegalStateException"), ("java/lang/ArithmeticException", "java/lang/ArithmeticException"), ("RuleClasses$Edition", "RuleClasses$Edition"), ("RuleClasses$Facts", "RuleClasses$Facts"), ("RuleClasses", "java/lang/Object"), ("RuleClasses$Facts", "java/lang/Object"), ("RuleClasses$Run", "java/lang/Object"), ("RuleClassesModel", "java/lang/Object"), ("RuleClasses$Edition", "java/lang/Object"), ("java/lang/String", "java/lang/Object")]
def STR : List (Nat × String) := [(215, "a number outside its range"), (84, "no room for an edition"), (222, "no such edition"), (218, "the edition is made"), (115, "no room for an op"), (163, "the edition is not made"), (169, "no room for a handle"), (177, "the handle has ended"), (182, "no room for a kept question"), (201, "/ by zero")]
def DCL : List MethodName := [({ cls := "java/lang/RuntimeException", name := "<init>", desc := "()V" } : Jvm.MethodName), ({ cls := "java/lang/RuntimeException", name := "<init>", desc := "(Ljava/lang/String;)V" } : Jvm.MethodName), ({ cls := "java/lang/Exception", name := "<init>", desc := "()V" } : Jvm.MethodName), ({ cls := "java/lang/Exception", name := "<init>", desc := "(Ljava/lang/String;)V" } : Jvm.MethodName), ({ cls := "java/lang/Throwable", name := "<init>", desc := "()V" } : Jvm.MethodName), ({ cls := "java/lang/Throwable", name := "<init>", desc := "(Ljava/lang/String;)V" } : Jvm.MethodName), ({ cls := "java/lang/Object", name := "getClass", desc := "()Ljava/lang/Class;" } : Jvm.MethodName)]
def XWS : List Cond := CSP.map (fun q => Cond.castable q.1 q.2) ++ DCL.map Cond.declares
