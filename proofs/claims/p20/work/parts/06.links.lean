/-! links: fields and methods by their places in the pools, by program (wip/whole/gen/mklinks.py) -/
theorem uw_A : ∀ w ∈ u_ws "java/util/ArrayList" T_A 3, w ∈ TBL := by
  show ∀ w ∈ ([(Jvm.Cond.lays "java/util/ArrayList" "java/util/AbstractList" "modCount" "I"), (Jvm.Cond.lays "java/util/ArrayList" "java/util/ArrayList" "elementData" "[Ljava/lang/Object;"), (Jvm.Cond.lays "java/util/ArrayList" "java/util/ArrayList" "size" "I")] : List Cond), w ∈ TBL
  exact List.forall_mem_cons.mpr ⟨m_54, List.forall_mem_cons.mpr ⟨m_50, List.forall_mem_cons.mpr ⟨m_52, fun _ h => absurd h List.not_mem_nil⟩⟩⟩
theorem ct_A : CT 0 := ⟨_, T_A, 3, rfl, ⟨ty_A, tyk_A⟩, nm_A⟩
theorem uw_C : ∀ w ∈ u_ws "RuleClasses" T_C 15, w ∈ TBL := by
  show ∀ w ∈ ([(Jvm.Cond.laysFinal "RuleClasses" "RuleClasses" "most" "I"), (Jvm.Cond.laysFinal "RuleClasses" "RuleClasses" "editions" "Ljava/util/ArrayList;"), (Jvm.Cond.laysFinal "RuleClasses" "RuleClasses" "kept" "Ljava/util/ArrayList;"), (Jvm.Cond.laysFinal "RuleClasses" "RuleClasses" "facts" "LRuleClasses$Facts;"), (Jvm.Cond.laysFinal "RuleClasses" "RuleClasses" "run" "LRuleClasses$Run;"), (Jvm.Cond.laysFinal "RuleClasses" "RuleClasses" "runBeside" "LRuleClasses$Run;"), (Jvm.Cond.laysFinal "RuleClasses" "RuleClasses" "fallbacks" "[I"), (Jvm.Cond.laysFinal "RuleClasses" "RuleClasses" "failures" "[I"), (Jvm.Cond.laysFinal "RuleClasses" "RuleClasses" "shadows" "[I"), (Jvm.Cond.laysFinal "RuleClasses" "RuleClasses" "differences" "[I"), (Jvm.Cond.lays "RuleClasses" "RuleClasses" "day" "I"), (Jvm.Cond.lays "RuleClasses" "RuleClasses" "questions" "I"), (Jvm.Cond.lays "RuleClasses" "RuleClasses" "handles" "I"), (Jvm.Cond.lays "RuleClasses" "RuleClasses" "livingHandle" "I"), (Jvm.Cond.lays "RuleClasses" "RuleClasses" "handledEdition" "I")] : List Cond), w ∈ TBL
  exact List.forall_mem_cons.mpr ⟨m_123, List.forall_mem_cons.mpr ⟨m_125, List.forall_mem_cons.mpr ⟨m_127, List.forall_mem_cons.mpr ⟨m_129, List.forall_mem_cons.mpr ⟨m_131, List.forall_mem_cons.mpr ⟨m_133, List.forall_mem_cons.mpr ⟨m_135, List.forall_mem_cons.mpr ⟨m_137, List.forall_mem_cons.mpr ⟨m_139, List.forall_mem_cons.mpr ⟨m_141, List.forall_mem_cons.mpr ⟨m_143, List.forall_mem_cons.mpr ⟨m_145, List.forall_mem_cons.mpr ⟨m_147, List.forall_mem_cons.mpr ⟨m_149, List.forall_mem_cons.mpr ⟨m_151, fun _ h => absurd h List.not_mem_nil⟩⟩⟩⟩⟩⟩⟩⟩⟩⟩⟩⟩⟩⟩⟩
theorem ct_C : CT 1 := ⟨_, T_C, 15, rfl, ⟨ty_C, tyk_C⟩, nm_C⟩
theorem uw_E : ∀ w ∈ u_ws "RuleClasses$Edition" T_E 10, w ∈ TBL := by
  show ∀ w ∈ ([(Jvm.Cond.laysFinal "RuleClasses$Edition" "RuleClasses$Edition" "owner" "I"), (Jvm.Cond.laysFinal "RuleClasses$Edition" "RuleClasses$Edition" "kind" "I"), (Jvm.Cond.laysFinal "RuleClasses$Edition" "RuleClasses$Edition" "day" "I"), (Jvm.Cond.laysFinal "RuleClasses$Edition" "RuleClasses$Edition" "ops" "[I"), (Jvm.Cond.laysFinal "RuleClasses$Edition" "RuleClasses$Edition" "constants" "[I"), (Jvm.Cond.lays "RuleClasses$Edition" "RuleClasses$Edition" "length" "I"), (Jvm.Cond.lays "RuleClasses$Edition" "RuleClasses$Edition" "made" "Z"), (Jvm.Cond.lays "RuleClasses$Edition" "RuleClasses$Edition" "timesAsked" "I"), (Jvm.Cond.lays "RuleClasses$Edition" "RuleClasses$Edition" "stepsAsked" "I"), (Jvm.Cond.lays "RuleClasses$Edition" "RuleClasses$Edition" "timesFailed" "I")] : List Cond), w ∈ TBL
  exact List.forall_mem_cons.mpr ⟨m_323, List.forall_mem_cons.mpr ⟨m_325, List.forall_mem_cons.mpr ⟨m_327, List.forall_mem_cons.mpr ⟨m_329, List.forall_mem_cons.mpr ⟨m_331, List.forall_mem_cons.mpr ⟨m_333, List.forall_mem_cons.mpr ⟨m_335, List.forall_mem_cons.mpr ⟨m_337, List.forall_mem_cons.mpr ⟨m_339, List.forall_mem_cons.mpr ⟨m_341, fun _ h => absurd h List.not_mem_nil⟩⟩⟩⟩⟩⟩⟩⟩⟩⟩
theorem ct_E : CT 2 := ⟨_, T_E, 10, rfl, ⟨ty_E, tyk_E⟩, nm_E⟩
theorem uw_F : ∀ w ∈ u_ws "RuleClasses$Facts" T_F 1, w ∈ TBL := by
  show ∀ w ∈ ([(Jvm.Cond.laysFinal "RuleClasses$Facts" "RuleClasses$Facts" "values" "[I")] : List Cond), w ∈ TBL
  exact List.forall_mem_cons.mpr ⟨m_66, fun _ h => absurd h List.not_mem_nil⟩
theorem ct_F : CT 3 := ⟨_, T_F, 1, rfl, ⟨ty_F, tyk_F⟩, nm_F⟩
theorem uw_U : ∀ w ∈ u_ws "RuleClasses$Run" T_U 7, w ∈ TBL := by
  show ∀ w ∈ ([(Jvm.Cond.laysFinal "RuleClasses$Run" "RuleClasses$Run" "most" "I"), (Jvm.Cond.laysFinal "RuleClasses$Run" "RuleClasses$Run" "stack" "[I"), (Jvm.Cond.lays "RuleClasses$Run" "RuleClasses$Run" "height" "I"), (Jvm.Cond.lays "RuleClasses$Run" "RuleClasses$Run" "next" "I"), (Jvm.Cond.lays "RuleClasses$Run" "RuleClasses$Run" "outcome" "I"), (Jvm.Cond.lays "RuleClasses$Run" "RuleClasses$Run" "answer" "I"), (Jvm.Cond.lays "RuleClasses$Run" "RuleClasses$Run" "steps" "I")] : List Cond), w ∈ TBL
  exact List.forall_mem_cons.mpr ⟨m_93, List.forall_mem_cons.mpr ⟨m_95, List.forall_mem_cons.mpr ⟨m_97, List.forall_mem_cons.mpr ⟨m_99, List.forall_mem_cons.mpr ⟨m_101, List.forall_mem_cons.mpr ⟨m_103, List.forall_mem_cons.mpr ⟨m_105, fun _ h => absurd h List.not_mem_nil⟩⟩⟩⟩⟩⟩⟩
theorem ct_U : CT 4 := ⟨_, T_U, 7, rfl, ⟨ty_U, tyk_U⟩, nm_U⟩
theorem uw_M : ∀ w ∈ u_ws "RuleClassesModel" T_M 30, w ∈ TBL := by
  show ∀ w ∈ ([(Jvm.Cond.laysFinal "RuleClassesModel" "RuleClassesModel" "most" "I"), (Jvm.Cond.lays "RuleClassesModel" "RuleClassesModel" "editions" "I"), (Jvm.Cond.lays "RuleClassesModel" "RuleClassesModel" "day" "I"), (Jvm.Cond.lays "RuleClassesModel" "RuleClassesModel" "thrown" "I"), (Jvm.Cond.lays "RuleClassesModel" "RuleClassesModel" "questions" "I"), (Jvm.Cond.lays "RuleClassesModel" "RuleClassesModel" "kept" "I"), (Jvm.Cond.lays "RuleClassesModel" "RuleClassesModel" "handles" "I"), (Jvm.Cond.lays "RuleClassesModel" "RuleClassesModel" "handled" "I"), (Jvm.Cond.laysFinal "RuleClassesModel" "RuleClassesModel" "owner" "[I"), (Jvm.Cond.laysFinal "RuleClassesModel" "RuleClassesModel" "kind" "[I"), (Jvm.Cond.laysFinal "RuleClassesModel" "RuleClassesModel" "from" "[I"), (Jvm.Cond.laysFinal "RuleClassesModel" "RuleClassesModel" "made" "[Z"), (Jvm.Cond.laysFinal "RuleClassesModel" "RuleClassesModel" "asked" "[I"), (Jvm.Cond.laysFinal "RuleClassesModel" "RuleClassesModel" "stepsOf" "[I"), (Jvm.Cond.laysFinal "RuleClassesModel" "RuleClassesModel" "fails" "[I"), (Jvm.Cond.laysFinal "RuleClassesModel" "RuleClassesModel" "many" "[I"), (Jvm.Cond.laysFinal "RuleClassesModel" "RuleClassesModel" "ops" "[I"), (Jvm.Cond.laysFinal "RuleClassesModel" "RuleClassesModel" "constants" "[I"), (Jvm.Cond.laysFinal "RuleClassesModel" "RuleClassesModel" "facts" "[I"), (Jvm.Cond.laysFinal "RuleClassesModel" "RuleClassesModel" "keptFacts" "[I"), (Jvm.Cond.laysFinal "RuleClassesModel" "RuleClassesModel" "fallbacks" "[I"), (Jvm.Cond.laysFinal "RuleClassesModel" "RuleClassesModel" "failures" "[I"), (Jvm.Cond.laysFinal "RuleClassesModel" "RuleClassesModel" "shadows" "[I"), (Jvm.Cond.laysFinal "RuleClassesModel" "RuleClassesModel" "others" "[I"), (Jvm.Cond.laysFinal "RuleClassesModel" "RuleClassesModel" "stack" "[J"), (Jvm.Cond.lays "RuleClassesModel" "RuleClassesModel" "put" "I"), (Jvm.Cond.lays "RuleClassesModel" "RuleClassesModel" "steps" "I"), (Jvm.Cond.lays "RuleClassesModel" "RuleClassesModel" "next" "I"), (Jvm.Cond.lays "RuleClassesModel" "RuleClassesModel" "answer" "J"), (Jvm.Cond.laysFinal "RuleClassesModel" "RuleClassesModel" "given" "[I")] : List Cond), w ∈ TBL
  exact List.forall_mem_cons.mpr ⟨m_698, List.forall_mem_cons.mpr ⟨m_700, List.forall_mem_cons.mpr ⟨m_702, List.forall_mem_cons.mpr ⟨m_704, List.forall_mem_cons.mpr ⟨m_706, List.forall_mem_cons.mpr ⟨m_708, List.forall_mem_cons.mpr ⟨m_710, List.forall_mem_cons.mpr ⟨m_712, List.forall_mem_cons.mpr ⟨m_714, List.forall_mem_cons.mpr ⟨m_716, List.forall_mem_cons.mpr ⟨m_718, List.forall_mem_cons.mpr ⟨m_720, List.forall_mem_cons.mpr ⟨m_722, List.forall_mem_cons.mpr ⟨m_724, List.forall_mem_cons.mpr ⟨m_726, List.forall_mem_cons.mpr ⟨m_728, List.forall_mem_cons.mpr ⟨m_730, List.forall_mem_cons.mpr ⟨m_732, List.forall_mem_cons.mpr ⟨m_734, List.forall_mem_cons.mpr ⟨m_736, List.forall_mem_cons.mpr ⟨m_738, List.forall_mem_cons.mpr ⟨m_740, List.forall_mem_cons.mpr ⟨m_742, List.forall_mem_cons.mpr ⟨m_744, List.forall_mem_cons.mpr ⟨m_746, List.forall_mem_cons.mpr ⟨m_748, List.forall_mem_cons.mpr ⟨m_750, List.forall_mem_cons.mpr ⟨m_752, List.forall_mem_cons.mpr ⟨m_754, List.forall_mem_cons.mpr ⟨m_756, fun _ h => absurd h List.not_mem_nil⟩⟩⟩⟩⟩⟩⟩⟩⟩⟩⟩⟩⟩⟩⟩⟩⟩⟩⟩⟩⟩⟩⟩⟩⟩⟩⟩⟩⟩⟩
theorem ct_M : CT 5 := ⟨_, T_M, 30, rfl, ⟨ty_M, tyk_M⟩, nm_M⟩
theorem f_C_10 : FP "RuleClasses" 10 1 1 (.object "java/util/ArrayList") true := ⟨_, _, T_C, 15, rfl, uw_C, by decide, m_109, Or.inl rfl, rfl, by decide +kernel, fun h => rfl⟩
theorem f_C_16 : FP "RuleClasses" 16 1 2 (.object "java/util/ArrayList") true := ⟨_, _, T_C, 15, rfl, uw_C, by decide, m_110, Or.inl rfl, rfl, by decide +kernel, fun h => rfl⟩
theorem f_C_22 : FP "RuleClasses" 22 1 3 (.object "RuleClasses$Facts") true := ⟨_, _, T_C, 15, rfl, uw_C, by decide, m_111, Or.inl rfl, rfl, by decide +kernel, fun h => rfl⟩
theorem f_C_26 : FP "RuleClasses" 26 1 6 (.array .int) true := ⟨_, _, T_C, 15, rfl, uw_C, by decide, m_114, Or.inl rfl, rfl, by decide +kernel, fun h => rfl⟩
theorem f_C_30 : FP "RuleClasses" 30 1 7 (.array .int) true := ⟨_, _, T_C, 15, rfl, uw_C, by decide, m_115, Or.inl rfl, rfl, by decide +kernel, fun h => rfl⟩
theorem f_C_33 : FP "RuleClasses" 33 1 8 (.array .int) true := ⟨_, _, T_C, 15, rfl, uw_C, by decide, m_116, Or.inl rfl, rfl, by decide +kernel, fun h => rfl⟩
theorem f_C_36 : FP "RuleClasses" 36 1 9 (.array .int) true := ⟨_, _, T_C, 15, rfl, uw_C, by decide, m_117, Or.inl rfl, rfl, by decide +kernel, fun h => rfl⟩
theorem f_C_48 : FP "RuleClasses" 48 1 0 .int true := ⟨_, _, T_C, 15, rfl, uw_C, by decide, m_108, Or.inl rfl, rfl, by decide +kernel, fun h => rfl⟩
theorem f_C_57 : FP "RuleClasses" 57 1 4 (.object "RuleClasses$Run") true := ⟨_, _, T_C, 15, rfl, uw_C, by decide, m_112, Or.inl rfl, rfl, by decide +kernel, fun h => rfl⟩
theorem f_C_61 : FP "RuleClasses" 61 1 5 (.object "RuleClasses$Run") true := ⟨_, _, T_C, 15, rfl, uw_C, by decide, m_113, Or.inl rfl, rfl, by decide +kernel, fun h => rfl⟩
theorem f_C_64 : FP "RuleClasses" 64 1 10 .int false := ⟨_, _, T_C, 15, rfl, uw_C, by decide, m_118, Or.inl rfl, rfl, by decide +kernel, fun h => by cases h⟩
theorem f_C_112 : FP "RuleClasses" 112 2 5 .int false := ⟨_, _, T_E, 10, rfl, uw_E, by decide, m_315, Or.inl rfl, rfl, by decide +kernel, fun h => by cases h⟩
theorem f_C_124 : FP "RuleClasses" 124 4 4 .int false := ⟨_, _, T_U, 7, rfl, uw_U, by decide, m_88, Or.inl rfl, rfl, by decide +kernel, fun h => by cases h⟩
theorem f_C_127 : FP "RuleClasses" 127 2 6 .boolean false := ⟨_, _, T_E, 10, rfl, uw_E, by decide, m_318, Or.inl rfl, rfl, by decide +kernel, fun h => by cases h⟩
theorem f_C_131 : FL "RuleClasses" 131 3 0 := ⟨_, _, T_F, 1, rfl, uw_F, by decide, m_64, Or.inl rfl⟩
theorem f_C_134 : FP "RuleClasses" 134 1 11 .int false := ⟨_, _, T_C, 15, rfl, uw_C, by decide, m_119, Or.inl rfl, rfl, by decide +kernel, fun h => by cases h⟩
theorem f_C_158 : FP "RuleClasses" 158 4 5 .int false := ⟨_, _, T_U, 7, rfl, uw_U, by decide, m_90, Or.inl rfl, rfl, by decide +kernel, fun h => by cases h⟩
theorem f_C_166 : FP "RuleClasses" 166 1 12 .int false := ⟨_, _, T_C, 15, rfl, uw_C, by decide, m_120, Or.inl rfl, rfl, by decide +kernel, fun h => by cases h⟩
theorem f_C_171 : FP "RuleClasses" 171 1 13 .int false := ⟨_, _, T_C, 15, rfl, uw_C, by decide, m_121, Or.inl rfl, rfl, by decide +kernel, fun h => by cases h⟩
theorem f_C_174 : FP "RuleClasses" 174 1 14 .int false := ⟨_, _, T_C, 15, rfl, uw_C, by decide, m_122, Or.inl rfl, rfl, by decide +kernel, fun h => by cases h⟩
theorem f_C_179 : FL "RuleClasses" 179 2 1 := ⟨_, _, T_E, 10, rfl, uw_E, by decide, m_307, Or.inl rfl⟩
theorem f_C_229 : FL "RuleClasses" 229 2 2 := ⟨_, _, T_E, 10, rfl, uw_E, by decide, m_309, Or.inl rfl⟩
theorem f_E_9 : FP "RuleClasses$Edition" 9 2 3 (.array .int) true := ⟨_, _, T_E, 10, rfl, uw_E, by decide, m_310, Or.inl rfl, rfl, by decide +kernel, fun h => rfl⟩
theorem f_E_15 : FP "RuleClasses$Edition" 15 2 4 (.array .int) true := ⟨_, _, T_E, 10, rfl, uw_E, by decide, m_312, Or.inl rfl, rfl, by decide +kernel, fun h => rfl⟩
theorem f_E_18 : FP "RuleClasses$Edition" 18 2 0 .int true := ⟨_, _, T_E, 10, rfl, uw_E, by decide, m_305, Or.inl rfl, rfl, by decide +kernel, fun h => rfl⟩
theorem f_E_22 : FP "RuleClasses$Edition" 22 2 1 .int true := ⟨_, _, T_E, 10, rfl, uw_E, by decide, m_306, Or.inl rfl, rfl, by decide +kernel, fun h => rfl⟩
theorem f_E_25 : FP "RuleClasses$Edition" 25 2 2 .int true := ⟨_, _, T_E, 10, rfl, uw_E, by decide, m_308, Or.inl rfl, rfl, by decide +kernel, fun h => rfl⟩
theorem f_E_28 : FP "RuleClasses$Edition" 28 2 5 .int false := ⟨_, _, T_E, 10, rfl, uw_E, by decide, m_314, Or.inl rfl, rfl, by decide +kernel, fun h => by cases h⟩
theorem f_E_31 : FP "RuleClasses$Edition" 31 2 6 .boolean false := ⟨_, _, T_E, 10, rfl, uw_E, by decide, m_317, Or.inl rfl, rfl, by decide +kernel, fun h => by cases h⟩
theorem f_E_35 : FP "RuleClasses$Edition" 35 2 7 .int false := ⟨_, _, T_E, 10, rfl, uw_E, by decide, m_319, Or.inl rfl, rfl, by decide +kernel, fun h => by cases h⟩
theorem f_E_38 : FP "RuleClasses$Edition" 38 2 8 .int false := ⟨_, _, T_E, 10, rfl, uw_E, by decide, m_321, Or.inl rfl, rfl, by decide +kernel, fun h => by cases h⟩
theorem f_E_41 : FP "RuleClasses$Edition" 41 4 6 .int false := ⟨_, _, T_U, 7, rfl, uw_U, by decide, m_92, Or.inl rfl, rfl, by decide +kernel, fun h => by cases h⟩
theorem f_E_46 : FP "RuleClasses$Edition" 46 4 4 .int false := ⟨_, _, T_U, 7, rfl, uw_U, by decide, m_87, Or.inl rfl, rfl, by decide +kernel, fun h => by cases h⟩
theorem f_E_49 : FP "RuleClasses$Edition" 49 2 9 .int false := ⟨_, _, T_E, 10, rfl, uw_E, by decide, m_322, Or.inl rfl, rfl, by decide +kernel, fun h => by cases h⟩
theorem f_F_9 : FP "RuleClasses$Facts" 9 3 0 (.array .int) true := ⟨_, _, T_F, 1, rfl, uw_F, by decide, m_63, Or.inl rfl, rfl, by decide +kernel, fun h => rfl⟩
theorem f_U_9 : FP "RuleClasses$Run" 9 4 1 (.array .int) true := ⟨_, _, T_U, 7, rfl, uw_U, by decide, m_83, Or.inl rfl, rfl, by decide +kernel, fun h => rfl⟩
theorem f_U_15 : FP "RuleClasses$Run" 15 4 0 .int true := ⟨_, _, T_U, 7, rfl, uw_U, by decide, m_82, Or.inl rfl, rfl, by decide +kernel, fun h => rfl⟩
theorem f_U_22 : FP "RuleClasses$Run" 22 4 4 .int false := ⟨_, _, T_U, 7, rfl, uw_U, by decide, m_86, Or.inl rfl, rfl, by decide +kernel, fun h => by cases h⟩
theorem f_U_29 : FP "RuleClasses$Run" 29 4 5 .int false := ⟨_, _, T_U, 7, rfl, uw_U, by decide, m_89, Or.inl rfl, rfl, by decide +kernel, fun h => by cases h⟩
theorem f_U_32 : FP "RuleClasses$Run" 32 4 2 .int false := ⟨_, _, T_U, 7, rfl, uw_U, by decide, m_84, Or.inl rfl, rfl, by decide +kernel, fun h => by cases h⟩
theorem f_U_35 : FP "RuleClasses$Run" 35 4 3 .int false := ⟨_, _, T_U, 7, rfl, uw_U, by decide, m_85, Or.inl rfl, rfl, by decide +kernel, fun h => by cases h⟩
theorem f_U_38 : FP "RuleClasses$Run" 38 4 6 .int false := ⟨_, _, T_U, 7, rfl, uw_U, by decide, m_91, Or.inl rfl, rfl, by decide +kernel, fun h => by cases h⟩
theorem f_U_41 : FP "RuleClasses$Run" 41 2 5 .int false := ⟨_, _, T_E, 10, rfl, uw_E, by decide, m_316, Or.inl rfl, rfl, by decide +kernel, fun h => by cases h⟩
theorem f_U_50 : FL "RuleClasses$Run" 50 2 3 := ⟨_, _, T_E, 10, rfl, uw_E, by decide, m_311, Or.inl rfl⟩
theorem f_U_53 : FL "RuleClasses$Run" 53 2 4 := ⟨_, _, T_E, 10, rfl, uw_E, by decide, m_313, Or.inl rfl⟩
theorem f_U_64 : FL "RuleClasses$Run" 64 3 0 := ⟨_, _, T_F, 1, rfl, uw_F, by decide, m_65, Or.inl rfl⟩
theorem f_U_69 : FP "RuleClasses$Run" 69 2 7 .int false := ⟨_, _, T_E, 10, rfl, uw_E, by decide, m_320, Or.inl rfl, rfl, by decide +kernel, fun h => by cases h⟩
theorem f_M_9 : FP "RuleClassesModel" 9 5 7 .int false := ⟨_, _, T_M, 30, rfl, uw_M, by decide, m_675, Or.inl rfl, rfl, by decide +kernel, fun h => by cases h⟩
theorem f_M_13 : FP "RuleClassesModel" 13 5 8 (.array .int) true := ⟨_, _, T_M, 30, rfl, uw_M, by decide, m_676, Or.inl rfl, rfl, by decide +kernel, fun h => rfl⟩
theorem f_M_17 : FP "RuleClassesModel" 17 5 9 (.array .int) true := ⟨_, _, T_M, 30, rfl, uw_M, by decide, m_677, Or.inl rfl, rfl, by decide +kernel, fun h => rfl⟩
theorem f_M_20 : FP "RuleClassesModel" 20 5 10 (.array .int) true := ⟨_, _, T_M, 30, rfl, uw_M, by decide, m_678, Or.inl rfl, rfl, by decide +kernel, fun h => rfl⟩
theorem f_M_23 : FP "RuleClassesModel" 23 5 11 (.array .boolean) true := ⟨_, _, T_M, 30, rfl, uw_M, by decide, m_679, Or.inl rfl, rfl, by decide +kernel, fun h => rfl⟩
theorem f_M_27 : FP "RuleClassesModel" 27 5 12 (.array .int) true := ⟨_, _, T_M, 30, rfl, uw_M, by decide, m_680, Or.inl rfl, rfl, by decide +kernel, fun h => rfl⟩
theorem f_M_30 : FP "RuleClassesModel" 30 5 13 (.array .int) true := ⟨_, _, T_M, 30, rfl, uw_M, by decide, m_681, Or.inl rfl, rfl, by decide +kernel, fun h => rfl⟩
theorem f_M_33 : FP "RuleClassesModel" 33 5 14 (.array .int) true := ⟨_, _, T_M, 30, rfl, uw_M, by decide, m_682, Or.inl rfl, rfl, by decide +kernel, fun h => rfl⟩
theorem f_M_36 : FP "RuleClassesModel" 36 5 15 (.array .int) true := ⟨_, _, T_M, 30, rfl, uw_M, by decide, m_683, Or.inl rfl, rfl, by decide +kernel, fun h => rfl⟩
theorem f_M_39 : FP "RuleClassesModel" 39 5 16 (.array .int) true := ⟨_, _, T_M, 30, rfl, uw_M, by decide, m_684, Or.inl rfl, rfl, by decide +kernel, fun h => rfl⟩
theorem f_M_42 : FP "RuleClassesModel" 42 5 17 (.array .int) true := ⟨_, _, T_M, 30, rfl, uw_M, by decide, m_685, Or.inl rfl, rfl, by decide +kernel, fun h => rfl⟩
theorem f_M_45 : FP "RuleClassesModel" 45 5 18 (.array .int) true := ⟨_, _, T_M, 30, rfl, uw_M, by decide, m_686, Or.inl rfl, rfl, by decide +kernel, fun h => rfl⟩
theorem f_M_48 : FP "RuleClassesModel" 48 5 19 (.array .int) true := ⟨_, _, T_M, 30, rfl, uw_M, by decide, m_687, Or.inl rfl, rfl, by decide +kernel, fun h => rfl⟩
theorem f_M_51 : FP "RuleClassesModel" 51 5 20 (.array .int) true := ⟨_, _, T_M, 30, rfl, uw_M, by decide, m_688, Or.inl rfl, rfl, by decide +kernel, fun h => rfl⟩
theorem f_M_54 : FP "RuleClassesModel" 54 5 21 (.array .int) true := ⟨_, _, T_M, 30, rfl, uw_M, by decide, m_689, Or.inl rfl, rfl, by decide +kernel, fun h => rfl⟩
theorem f_M_57 : FP "RuleClassesModel" 57 5 22 (.array .int) true := ⟨_, _, T_M, 30, rfl, uw_M, by decide, m_690, Or.inl rfl, rfl, by decide +kernel, fun h => rfl⟩
theorem f_M_60 : FP "RuleClassesModel" 60 5 23 (.array .int) true := ⟨_, _, T_M, 30, rfl, uw_M, by decide, m_691, Or.inl rfl, rfl, by decide +kernel, fun h => rfl⟩
theorem f_M_63 : FP "RuleClassesModel" 63 5 24 (.array .long) true := ⟨_, _, T_M, 30, rfl, uw_M, by decide, m_692, Or.inl rfl, rfl, by decide +kernel, fun h => rfl⟩
theorem f_M_67 : FP "RuleClassesModel" 67 5 29 (.array .int) true := ⟨_, _, T_M, 30, rfl, uw_M, by decide, m_697, Or.inl rfl, rfl, by decide +kernel, fun h => rfl⟩
theorem f_M_70 : FP "RuleClassesModel" 70 5 0 .int true := ⟨_, _, T_M, 30, rfl, uw_M, by decide, m_668, Or.inl rfl, rfl, by decide +kernel, fun h => rfl⟩
theorem f_M_73 : FP "RuleClassesModel" 73 5 3 .int false := ⟨_, _, T_M, 30, rfl, uw_M, by decide, m_671, Or.inl rfl, rfl, by decide +kernel, fun h => by cases h⟩
theorem f_M_76 : FP "RuleClassesModel" 76 5 1 .int false := ⟨_, _, T_M, 30, rfl, uw_M, by decide, m_669, Or.inl rfl, rfl, by decide +kernel, fun h => by cases h⟩
theorem f_M_83 : FP "RuleClassesModel" 83 5 2 .int false := ⟨_, _, T_M, 30, rfl, uw_M, by decide, m_670, Or.inl rfl, rfl, by decide +kernel, fun h => by cases h⟩
theorem f_M_97 : FP "RuleClassesModel" 97 5 26 .int false := ⟨_, _, T_M, 30, rfl, uw_M, by decide, m_694, Or.inl rfl, rfl, by decide +kernel, fun h => by cases h⟩
theorem f_M_100 : FP "RuleClassesModel" 100 5 27 .int false := ⟨_, _, T_M, 30, rfl, uw_M, by decide, m_695, Or.inl rfl, rfl, by decide +kernel, fun h => by cases h⟩
theorem f_M_103 : FP "RuleClassesModel" 103 5 25 .int false := ⟨_, _, T_M, 30, rfl, uw_M, by decide, m_693, Or.inl rfl, rfl, by decide +kernel, fun h => by cases h⟩
theorem f_M_110 : FP "RuleClassesModel" 110 5 28 .long false := ⟨_, _, T_M, 30, rfl, uw_M, by decide, m_696, Or.inl rfl, rfl, by decide +kernel, fun h => by cases h⟩
theorem f_M_131 : FP "RuleClassesModel" 131 5 4 .int false := ⟨_, _, T_M, 30, rfl, uw_M, by decide, m_672, Or.inl rfl, rfl, by decide +kernel, fun h => by cases h⟩
theorem f_M_141 : FP "RuleClassesModel" 141 5 6 .int false := ⟨_, _, T_M, 30, rfl, uw_M, by decide, m_674, Or.inl rfl, rfl, by decide +kernel, fun h => by cases h⟩
theorem f_M_144 : FP "RuleClassesModel" 144 5 5 .int false := ⟨_, _, T_M, 30, rfl, uw_M, by decide, m_673, Or.inl rfl, rfl, by decide +kernel, fun h => by cases h⟩
theorem f_AL_7 : FP "java/util/AbstractList" 7 0 0 .int false := ⟨_, _, T_A, 3, rfl, uw_A, by decide, m_47, Or.inl rfl, rfl, by decide +kernel, fun h => by cases h⟩
theorem f_A_9 : FP "java/util/ArrayList" 9 0 1 (.array (.object "java/lang/Object")) false := ⟨_, _, T_A, 3, rfl, uw_A, by decide, m_45, Or.inl rfl, rfl, by decide +kernel, fun h => by cases h⟩
theorem f_A_48 : FP "java/util/ArrayList" 48 0 2 .int false := ⟨_, _, T_A, 3, rfl, uw_A, by decide, m_46, Or.inl rfl, rfl, by decide +kernel, fun h => by cases h⟩
theorem f_A_63 : FP "java/util/ArrayList" 63 0 0 .int false := ⟨_, _, T_A, 3, rfl, uw_A, by decide, m_48, Or.inr m_49, rfl, by decide +kernel, fun h => by cases h⟩
theorem c_C_9 : MLI "RuleClasses" 9 y_A_init b_A_init 1 0 := ⟨⟨m_33, m_35, m_4, by decide, by decide +kernel⟩, rfl, m_34⟩
theorem c_C_39 : MLS "RuleClasses" 39 y_MA_min b_MA_min 2 (Option.some Jvm.ClassFile.FieldType.int) 2 := ⟨⟨m_70, m_72, m_6, by decide, by decide +kernel⟩, m_71⟩
theorem c_C_45 : MLS "RuleClasses" 45 y_MA_max b_MA_max 2 (Option.some Jvm.ClassFile.FieldType.int) 2 := ⟨⟨m_73, m_75, m_6, by decide, by decide +kernel⟩, m_74⟩
theorem c_C_54 : MLI "RuleClasses" 54 y_U_init b_U_init 2 1 := ⟨⟨m_78, m_80, m_7, by decide, by decide +kernel⟩, rfl, m_79⟩
theorem c_C_67 : MLS "RuleClasses" 67 y_C_requireRange b_C_requireRange 3 none 3 := ⟨⟨m_196, m_198, m_1, by decide, by decide +kernel⟩, m_197⟩
theorem c_C_71 : MLV "RuleClasses" 71 y_C_endHandle "RuleClasses" b_C_endHandle 1 none 0 := ⟨⟨m_269, m_272, m_1, by decide, by decide +kernel⟩, m_271, sl_C_endHandle⟩
theorem c_C_74 : MLS "RuleClasses" 74 y_C_requireOwnerAndKind b_C_requireOwnerAndKind 2 none 2 := ⟨⟨m_281, m_283, m_1, by decide, by decide +kernel⟩, m_282⟩
theorem c_C_78 : MLV "RuleClasses" 78 y_A_size "java/util/ArrayList" b_A_size 1 (Option.some Jvm.ClassFile.FieldType.int) 0 := ⟨⟨m_158, m_161, m_4, by decide, by decide +kernel⟩, m_159, m_160⟩
theorem c_C_91 : MLI "RuleClasses" 91 y_E_init b_E_init 4 3 := ⟨⟨m_301, m_303, m_14, by decide, by decide +kernel⟩, rfl, m_302⟩
theorem c_C_93 : MLV "RuleClasses" 93 y_A_add "java/util/ArrayList" b_A_add 2 (Option.some Jvm.ClassFile.FieldType.boolean) 1 := ⟨⟨m_344, m_347, m_4, by decide, by decide +kernel⟩, m_345, m_346⟩
theorem c_C_97 : MLV "RuleClasses" 97 y_C_editionAt "RuleClasses" b_C_editionAt 2 (Option.some (Jvm.ClassFile.FieldType.object "RuleClasses$Edition")) 1 := ⟨⟨m_407, m_410, m_1, by decide, by decide +kernel⟩, m_409, sl_C_editionAt⟩
theorem c_C_101 : MLS "RuleClasses" 101 y_C_leastConstant b_C_leastConstant 1 (Option.some Jvm.ClassFile.FieldType.int) 1 := ⟨⟨m_431, m_433, m_1, by decide, by decide +kernel⟩, m_432⟩
theorem c_C_105 : MLS "RuleClasses" 105 y_C_greatestConstant b_C_greatestConstant 1 (Option.some Jvm.ClassFile.FieldType.int) 1 := ⟨⟨m_434, m_436, m_1, by decide, by decide +kernel⟩, m_435⟩
theorem c_C_108 : MLS "RuleClasses" 108 y_C_requireNotMade b_C_requireNotMade 1 none 1 := ⟨⟨m_437, m_439, m_1, by decide, by decide +kernel⟩, m_438⟩
theorem c_C_117 : MLV "RuleClasses" 117 y_E_append "RuleClasses$Edition" b_E_append 3 none 2 := ⟨⟨m_457, m_460, m_14, by decide, by decide +kernel⟩, m_458, m_459⟩
theorem c_C_120 : MLV "RuleClasses" 120 y_U_start "RuleClasses$Run" b_U_start 3 none 2 := ⟨⟨m_468, m_471, m_7, by decide, by decide +kernel⟩, m_469, m_470⟩
theorem c_C_137 : MLV "RuleClasses" 137 y_C_countingEdition "RuleClasses" b_C_countingEdition 8 (Option.some Jvm.ClassFile.FieldType.int) 3 := ⟨⟨m_515, m_518, m_1, by decide, by decide +kernel⟩, m_517, sl_C_countingEdition⟩
theorem c_C_141 : MLV "RuleClasses" 141 y_U_startNothing "RuleClasses$Run" b_U_startNothing 1 none 0 := ⟨⟨m_523, m_526, m_7, by decide, by decide +kernel⟩, m_524, m_525⟩
theorem c_C_144 : MLV "RuleClasses" 144 y_A_get "java/util/ArrayList" b_A_get 2 (Option.some (Jvm.ClassFile.FieldType.object "java/lang/Object")) 1 := ⟨⟨m_166, m_169, m_4, by decide, by decide +kernel⟩, m_167, m_168⟩
theorem c_C_148 : MLS "RuleClasses" 148 y_C_place b_C_place 2 (Option.some Jvm.ClassFile.FieldType.int) 2 := ⟨⟨m_527, m_529, m_1, by decide, by decide +kernel⟩, m_528⟩
theorem c_C_151 : MLV "RuleClasses" 151 y_C_runShadow "RuleClasses" b_C_runShadow 3 none 1 := ⟨⟨m_530, m_533, m_1, by decide, by decide +kernel⟩, m_532, sl_C_runShadow⟩
theorem c_C_154 : MLV "RuleClasses" 154 y_E_noteQuestion "RuleClasses$Edition" b_E_noteQuestion 2 none 1 := ⟨⟨m_538, m_541, m_14, by decide, by decide +kernel⟩, m_539, m_540⟩
theorem c_C_184 : MLV "RuleClasses" 184 y_F_copy "RuleClasses$Facts" b_F_copy 2 (Option.some (Jvm.ClassFile.FieldType.object "RuleClasses$Facts")) 0 := ⟨⟨m_588, m_591, m_5, by decide, by decide +kernel⟩, m_589, m_590⟩
theorem c_C_188 : MLV "RuleClasses" 188 y_U_endedLike "RuleClasses$Run" b_U_endedLike 2 (Option.some Jvm.ClassFile.FieldType.boolean) 1 := ⟨⟨m_534, m_537, m_7, by decide, by decide +kernel⟩, m_535, m_536⟩
theorem c_C_192 : MLV "RuleClasses" 192 y_E_hasCodeOf "RuleClasses$Edition" b_E_hasCodeOf 3 (Option.some Jvm.ClassFile.FieldType.boolean) 1 := ⟨⟨m_609, m_612, m_14, by decide, by decide +kernel⟩, m_610, m_611⟩
theorem c_C_196 : MLV "RuleClasses" 196 y_C_requireEdition "RuleClasses" b_C_requireEdition 2 none 1 := ⟨⟨m_411, m_414, m_1, by decide, by decide +kernel⟩, m_413, sl_C_requireEdition⟩
theorem c_C_204 : MLV "RuleClasses" 204 y_E_tell "RuleClasses$Edition" b_E_tell 2 (Option.some Jvm.ClassFile.FieldType.int) 1 := ⟨⟨m_658, m_661, m_14, by decide, by decide +kernel⟩, m_659, m_660⟩
theorem c_C_207 : MLV "RuleClasses" 207 y_C_madeEditions "RuleClasses" b_C_madeEditions 3 (Option.some Jvm.ClassFile.FieldType.int) 0 := ⟨⟨m_162, m_165, m_1, by decide, by decide +kernel⟩, m_164, sl_C_madeEditions⟩
theorem c_C_210 : MLV "RuleClasses" 210 y_C_failedQuestions "RuleClasses" b_C_failedQuestions 3 (Option.some Jvm.ClassFile.FieldType.int) 0 := ⟨⟨m_181, m_184, m_1, by decide, by decide +kernel⟩, m_183, sl_C_failedQuestions⟩
theorem c_C_225 : MLV "RuleClasses" 225 y_E_countsFor "RuleClasses$Edition" b_E_countsFor 4 (Option.some Jvm.ClassFile.FieldType.boolean) 3 := ⟨⟨m_519, m_522, m_14, by decide, by decide +kernel⟩, m_520, m_521⟩
theorem c_F_15 : MLI "RuleClasses$Facts" 15 y_F_init b_F_init 1 0 := ⟨⟨m_593, m_61, m_5, by decide, by decide +kernel⟩, rfl, m_60⟩
theorem c_U_19 : MLV "RuleClasses$Run" 19 y_U_clear "RuleClasses$Run" b_U_clear 1 none 0 := ⟨⟨m_472, m_475, m_7, by decide, by decide +kernel⟩, m_474, sl_U_clear⟩
theorem c_U_25 : MLV "RuleClasses$Run" 25 y_U_outcomeOf "RuleClasses$Run" b_U_outcomeOf 6 (Option.some Jvm.ClassFile.FieldType.int) 2 := ⟨⟨m_476, m_479, m_7, by decide, by decide +kernel⟩, m_478, sl_U_outcomeOf⟩
theorem c_U_46 : MLV "RuleClasses$Run" 46 y_U_step "RuleClasses$Run" b_U_step 6 (Option.some Jvm.ClassFile.FieldType.int) 3 := ⟨⟨m_480, m_483, m_7, by decide, by decide +kernel⟩, m_482, sl_U_step⟩
theorem c_U_56 : MLS "RuleClasses$Run" 56 y_U_needed b_U_needed 1 (Option.some Jvm.ClassFile.FieldType.int) 1 := ⟨⟨m_484, m_486, m_7, by decide, by decide +kernel⟩, m_485⟩
theorem c_U_60 : MLV "RuleClasses$Run" 60 y_U_put "RuleClasses$Run" b_U_put 3 (Option.some Jvm.ClassFile.FieldType.int) 1 := ⟨⟨m_487, m_490, m_7, by decide, by decide +kernel⟩, m_489, sl_U_put⟩
theorem c_U_72 : MLV "RuleClasses$Run" 72 y_U_take "RuleClasses$Run" b_U_take 1 (Option.some Jvm.ClassFile.FieldType.int) 0 := ⟨⟨m_493, m_496, m_7, by decide, by decide +kernel⟩, m_495, sl_U_take⟩
theorem c_U_76 : MLV "RuleClasses$Run" 76 y_U_join "RuleClasses$Run" b_U_join 6 (Option.some Jvm.ClassFile.FieldType.int) 1 := ⟨⟨m_497, m_500, m_7, by decide, by decide +kernel⟩, m_499, sl_U_join⟩
theorem c_L_7 : MLV "RuleClassesLaw" 7 y_C_today "RuleClasses" b_C_today 2 none 1 := ⟨⟨m_192, m_195, m_1, by decide, by decide +kernel⟩, m_193, m_194⟩
theorem c_L_15 : MLV "RuleClassesLaw" 15 y_C_rule "RuleClasses" b_C_rule 4 (Option.some Jvm.ClassFile.FieldType.int) 3 := ⟨⟨m_277, m_280, m_1, by decide, by decide +kernel⟩, m_278, m_279⟩
theorem c_L_21 : MLV "RuleClassesLaw" 21 y_C_op "RuleClasses" b_C_op 5 (Option.some Jvm.ClassFile.FieldType.int) 3 := ⟨⟨m_403, m_406, m_1, by decide, by decide +kernel⟩, m_404, m_405⟩
theorem c_L_28 : MLV "RuleClassesLaw" 28 y_C_make "RuleClasses" b_C_make 3 (Option.some Jvm.ClassFile.FieldType.int) 1 := ⟨⟨m_464, m_467, m_1, by decide, by decide +kernel⟩, m_465, m_466⟩
theorem c_L_32 : MLV "RuleClassesLaw" 32 y_C_fact "RuleClasses" b_C_fact 3 none 2 := ⟨⟨m_504, m_507, m_1, by decide, by decide +kernel⟩, m_505, m_506⟩
theorem c_L_36 : MLV "RuleClassesLaw" 36 y_C_ask "RuleClasses" b_C_ask 4 (Option.some Jvm.ClassFile.FieldType.int) 2 := ⟨⟨m_511, m_514, m_1, by decide, by decide +kernel⟩, m_512, m_513⟩
theorem c_L_40 : MLV "RuleClassesLaw" 40 y_C_fallback "RuleClasses" b_C_fallback 3 none 2 := ⟨⟨m_545, m_548, m_1, by decide, by decide +kernel⟩, m_546, m_547⟩
theorem c_L_43 : MLV "RuleClassesLaw" 43 y_C_edition "RuleClasses" b_C_edition 4 (Option.some Jvm.ClassFile.FieldType.int) 3 := ⟨⟨m_552, m_555, m_1, by decide, by decide +kernel⟩, m_553, m_554⟩
theorem c_L_46 : MLV "RuleClassesLaw" 46 y_C_failed "RuleClasses" b_C_failed 3 (Option.some Jvm.ClassFile.FieldType.int) 2 := ⟨⟨m_559, m_562, m_1, by decide, by decide +kernel⟩, m_560, m_561⟩
theorem c_L_49 : MLV "RuleClassesLaw" 49 y_C_handle "RuleClasses" b_C_handle 2 (Option.some Jvm.ClassFile.FieldType.int) 1 := ⟨⟨m_566, m_569, m_1, by decide, by decide +kernel⟩, m_567, m_568⟩
theorem c_L_52 : MLV "RuleClassesLaw" 52 y_C_by "RuleClasses" b_C_by 3 (Option.some Jvm.ClassFile.FieldType.int) 1 := ⟨⟨m_575, m_578, m_1, by decide, by decide +kernel⟩, m_576, m_577⟩
theorem c_L_55 : MLV "RuleClassesLaw" 55 y_C_keep "RuleClasses" b_C_keep 1 (Option.some Jvm.ClassFile.FieldType.int) 0 := ⟨⟨m_583, m_586, m_1, by decide, by decide +kernel⟩, m_584, m_585⟩
theorem c_L_59 : MLV "RuleClassesLaw" 59 y_C_compare "RuleClasses" b_C_compare 7 (Option.some Jvm.ClassFile.FieldType.int) 2 := ⟨⟨m_598, m_601, m_1, by decide, by decide +kernel⟩, m_599, m_600⟩
theorem c_L_62 : MLV "RuleClassesLaw" 62 y_C_same "RuleClasses" b_C_same 5 (Option.some Jvm.ClassFile.FieldType.boolean) 2 := ⟨⟨m_605, m_608, m_1, by decide, by decide +kernel⟩, m_606, m_607⟩
theorem c_L_66 : MLV "RuleClassesLaw" 66 y_C_shadow "RuleClasses" b_C_shadow 4 none 3 := ⟨⟨m_616, m_619, m_1, by decide, by decide +kernel⟩, m_617, m_618⟩
theorem c_L_70 : MLV "RuleClassesLaw" 70 y_C_otherwise "RuleClasses" b_C_otherwise 3 (Option.some Jvm.ClassFile.FieldType.int) 2 := ⟨⟨m_623, m_626, m_1, by decide, by decide +kernel⟩, m_624, m_625⟩
theorem c_L_73 : MLV "RuleClassesLaw" 73 y_C_divide "RuleClasses" b_C_divide 3 (Option.some Jvm.ClassFile.FieldType.int) 2 := ⟨⟨m_631, m_634, m_1, by decide, by decide +kernel⟩, m_632, m_633⟩
theorem c_L_78 : MLV "RuleClassesLaw" 78 y_C_told "RuleClasses" b_C_told 4 (Option.some Jvm.ClassFile.FieldType.int) 2 := ⟨⟨m_654, m_657, m_1, by decide, by decide +kernel⟩, m_655, m_656⟩
theorem c_L_81 : MLS "RuleClassesLaw" 81 y_L_cell b_L_cell 2 (Option.some Jvm.ClassFile.FieldType.int) 2 := ⟨⟨m_185, m_187, m_0, by decide, by decide +kernel⟩, m_186⟩
theorem c_L_87 : MLI "RuleClassesLaw" 87 y_C_init b_C_init 3 1 := ⟨⟨m_25, m_27, m_1, by decide, by decide +kernel⟩, rfl, m_26⟩
theorem c_L_91 : MLI "RuleClassesLaw" 91 y_M_init b_M_init 2 1 := ⟨⟨m_664, m_666, m_8, by decide, by decide +kernel⟩, rfl, m_665⟩
theorem c_L_95 : MLV "RuleClassesLaw" 95 y_M_today "RuleClassesModel" b_M_today 2 none 1 := ⟨⟨m_761, m_764, m_8, by decide, by decide +kernel⟩, m_762, m_763⟩
theorem c_L_99 : MLV "RuleClassesLaw" 99 y_M_rule "RuleClassesModel" b_M_rule 4 (Option.some Jvm.ClassFile.FieldType.int) 3 := ⟨⟨m_768, m_771, m_8, by decide, by decide +kernel⟩, m_769, m_770⟩
theorem c_L_102 : MLV "RuleClassesLaw" 102 y_M_op "RuleClassesModel" b_M_op 4 (Option.some Jvm.ClassFile.FieldType.int) 3 := ⟨⟨m_775, m_778, m_8, by decide, by decide +kernel⟩, m_776, m_777⟩
theorem c_L_106 : MLV "RuleClassesLaw" 106 y_M_make "RuleClassesModel" b_M_make 3 (Option.some Jvm.ClassFile.FieldType.int) 1 := ⟨⟨m_786, m_789, m_8, by decide, by decide +kernel⟩, m_787, m_788⟩
theorem c_L_110 : MLV "RuleClassesLaw" 110 y_M_fact "RuleClassesModel" b_M_fact 3 none 2 := ⟨⟨m_811, m_814, m_8, by decide, by decide +kernel⟩, m_812, m_813⟩
theorem c_L_114 : MLV "RuleClassesLaw" 114 y_M_ask "RuleClassesModel" b_M_ask 6 (Option.some Jvm.ClassFile.FieldType.int) 2 := ⟨⟨m_815, m_818, m_8, by decide, by decide +kernel⟩, m_816, m_817⟩
theorem c_L_117 : MLV "RuleClassesLaw" 117 y_M_fallback "RuleClassesModel" b_M_fallback 3 none 2 := ⟨⟨m_827, m_830, m_8, by decide, by decide +kernel⟩, m_828, m_829⟩
theorem c_L_120 : MLV "RuleClassesLaw" 120 y_M_edition "RuleClassesModel" b_M_edition 4 (Option.some Jvm.ClassFile.FieldType.int) 3 := ⟨⟨m_831, m_834, m_8, by decide, by decide +kernel⟩, m_832, m_833⟩
theorem c_L_123 : MLV "RuleClassesLaw" 123 y_M_failed "RuleClassesModel" b_M_failed 3 (Option.some Jvm.ClassFile.FieldType.int) 2 := ⟨⟨m_835, m_838, m_8, by decide, by decide +kernel⟩, m_836, m_837⟩
theorem c_L_126 : MLV "RuleClassesLaw" 126 y_M_handle "RuleClassesModel" b_M_handle 2 (Option.some Jvm.ClassFile.FieldType.int) 1 := ⟨⟨m_839, m_842, m_8, by decide, by decide +kernel⟩, m_840, m_841⟩
theorem c_L_129 : MLV "RuleClassesLaw" 129 y_M_by "RuleClassesModel" b_M_by 2 (Option.some Jvm.ClassFile.FieldType.int) 1 := ⟨⟨m_843, m_846, m_8, by decide, by decide +kernel⟩, m_844, m_845⟩
theorem c_L_133 : MLV "RuleClassesLaw" 133 y_M_keep "RuleClassesModel" b_M_keep 2 (Option.some Jvm.ClassFile.FieldType.int) 0 := ⟨⟨m_847, m_850, m_8, by decide, by decide +kernel⟩, m_848, m_849⟩
theorem c_L_136 : MLV "RuleClassesLaw" 136 y_M_compare "RuleClassesModel" b_M_compare 9 (Option.some Jvm.ClassFile.FieldType.int) 2 := ⟨⟨m_851, m_854, m_8, by decide, by decide +kernel⟩, m_852, m_853⟩
theorem c_L_139 : MLV "RuleClassesLaw" 139 y_M_same "RuleClassesModel" b_M_same 4 (Option.some Jvm.ClassFile.FieldType.boolean) 2 := ⟨⟨m_855, m_858, m_8, by decide, by decide +kernel⟩, m_856, m_857⟩
theorem c_L_143 : MLV "RuleClassesLaw" 143 y_M_shadow "RuleClassesModel" b_M_shadow 4 none 3 := ⟨⟨m_859, m_862, m_8, by decide, by decide +kernel⟩, m_860, m_861⟩
theorem c_L_146 : MLV "RuleClassesLaw" 146 y_M_otherwise "RuleClassesModel" b_M_otherwise 3 (Option.some Jvm.ClassFile.FieldType.int) 2 := ⟨⟨m_863, m_866, m_8, by decide, by decide +kernel⟩, m_864, m_865⟩
theorem c_L_149 : MLV "RuleClassesLaw" 149 y_M_divide "RuleClassesModel" b_M_divide 3 (Option.some Jvm.ClassFile.FieldType.int) 2 := ⟨⟨m_867, m_870, m_8, by decide, by decide +kernel⟩, m_868, m_869⟩
theorem c_L_152 : MLV "RuleClassesLaw" 152 y_M_told "RuleClassesModel" b_M_told 3 (Option.some Jvm.ClassFile.FieldType.int) 2 := ⟨⟨m_871, m_874, m_8, by decide, by decide +kernel⟩, m_872, m_873⟩
theorem c_L_153 : MLV "RuleClassesLaw" 153 y_C_count "RuleClasses" b_C_count 2 (Option.some Jvm.ClassFile.FieldType.int) 1 := ⟨⟨m_154, m_157, m_1, by decide, by decide +kernel⟩, m_155, m_156⟩
theorem c_L_156 : MLV "RuleClassesLaw" 156 y_M_count "RuleClassesModel" b_M_count 4 (Option.some Jvm.ClassFile.FieldType.int) 1 := ⟨⟨m_875, m_878, m_8, by decide, by decide +kernel⟩, m_876, m_877⟩
theorem c_M_79 : MLS "RuleClassesModel" 79 y_M_within b_M_within 3 (Option.some Jvm.ClassFile.FieldType.boolean) 3 := ⟨⟨m_765, m_767, m_8, by decide, by decide +kernel⟩, m_766⟩
theorem c_M_86 : MLS "RuleClassesModel" 86 y_M_isPlace b_M_isPlace 2 (Option.some Jvm.ClassFile.FieldType.boolean) 2 := ⟨⟨m_772, m_774, m_8, by decide, by decide +kernel⟩, m_773⟩
theorem c_M_90 : MLV "RuleClassesModel" 90 y_M_isEdition "RuleClassesModel" b_M_isEdition 2 (Option.some Jvm.ClassFile.FieldType.boolean) 1 := ⟨⟨m_779, m_782, m_8, by decide, by decide +kernel⟩, m_781, sl_M_isEdition⟩
theorem c_M_94 : MLS "RuleClassesModel" 94 y_M_isConstant b_M_isConstant 2 (Option.some Jvm.ClassFile.FieldType.boolean) 2 := ⟨⟨m_783, m_785, m_8, by decide, by decide +kernel⟩, m_784⟩
theorem c_M_106 : MLS "RuleClassesModel" 106 y_M_takes b_M_takes 1 (Option.some Jvm.ClassFile.FieldType.int) 1 := ⟨⟨m_802, m_804, m_8, by decide, by decide +kernel⟩, m_803⟩
theorem c_M_114 : MLV "RuleClassesModel" 114 y_M_valueOf "RuleClassesModel" b_M_valueOf 8 (Option.some Jvm.ClassFile.FieldType.long) 5 := ⟨⟨m_805, m_808, m_8, by decide, by decide +kernel⟩, m_807, sl_M_valueOf⟩
theorem c_M_122 : MLV "RuleClassesModel" 122 y_M_step "RuleClassesModel" b_M_step 10 (Option.some Jvm.ClassFile.FieldType.int) 1 := ⟨⟨m_798, m_801, m_8, by decide, by decide +kernel⟩, m_800, sl_M_step⟩
theorem c_M_125 : MLV "RuleClassesModel" 125 y_M_giveFacts "RuleClassesModel" b_M_giveFacts 2 none 0 := ⟨⟨m_790, m_793, m_8, by decide, by decide +kernel⟩, m_792, sl_M_giveFacts⟩
theorem c_M_128 : MLV "RuleClassesModel" 128 y_M_run "RuleClassesModel" b_M_run 3 (Option.some Jvm.ClassFile.FieldType.int) 1 := ⟨⟨m_794, m_797, m_8, by decide, by decide +kernel⟩, m_796, sl_M_run⟩
theorem c_M_134 : MLV "RuleClassesModel" 134 y_M_counts "RuleClassesModel" b_M_counts 6 (Option.some Jvm.ClassFile.FieldType.int) 3 := ⟨⟨m_819, m_822, m_8, by decide, by decide +kernel⟩, m_821, sl_M_counts⟩
theorem c_M_138 : MLV "RuleClassesModel" 138 y_M_askedOf "RuleClassesModel" b_M_askedOf 5 (Option.some Jvm.ClassFile.FieldType.int) 3 := ⟨⟨m_823, m_826, m_8, by decide, by decide +kernel⟩, m_825, sl_M_askedOf⟩
theorem c_AL_1 : MLI "java/util/AbstractList" 1 y_AC_init b_AC_init 1 0 := ⟨⟨m_39, m_41, m_2, by decide, by decide +kernel⟩, rfl, m_40⟩
theorem c_A_1 : MLI "java/util/ArrayList" 1 y_AL_init b_AL_init 1 0 := ⟨⟨m_36, m_38, m_3, by decide, by decide +kernel⟩, rfl, m_37⟩
theorem c_A_66 : MLS "java/util/ArrayList" 66 y_AR_copyOf b_AR_copyOf 2 (Option.some (Jvm.ClassFile.FieldType.array (Jvm.ClassFile.FieldType.object "java/lang/Object"))) 2 := ⟨⟨m_368, m_370, m_16, by decide, by decide +kernel⟩, m_369⟩
theorem c_A_69 : MLV "java/util/ArrayList" 69 y_A_grow2 "java/util/ArrayList" b_A_grow2 4 (Option.some (Jvm.ClassFile.FieldType.array (Jvm.ClassFile.FieldType.object "java/lang/Object"))) 1 := ⟨⟨m_356, m_359, m_4, by decide, by decide +kernel⟩, m_358, sl_A_grow2⟩
theorem c_A_73 : MLS "java/util/ArrayList" 73 y_AS_newLength b_AS_newLength 4 (Option.some Jvm.ClassFile.FieldType.int) 3 := ⟨⟨m_360, m_362, m_15, by decide, by decide +kernel⟩, m_361⟩
theorem c_A_79 : MLS "java/util/ArrayList" 79 y_MA_max b_MA_max 2 (Option.some Jvm.ClassFile.FieldType.int) 2 := ⟨⟨m_396, m_75, m_6, by decide, by decide +kernel⟩, m_74⟩
theorem c_A_118 : MLS "java/util/ArrayList" 118 y_OB_checkIndex b_OB_checkIndex 2 (Option.some Jvm.ClassFile.FieldType.int) 2 := ⟨⟨m_170, m_172, m_19, by decide, by decide +kernel⟩, m_171⟩
theorem c_A_123 : MLV "java/util/ArrayList" 123 y_A_elementData "java/util/ArrayList" b_A_elementData 2 (Option.some (Jvm.ClassFile.FieldType.object "java/lang/Object")) 1 := ⟨⟨m_176, m_179, m_4, by decide, by decide +kernel⟩, m_177, m_178⟩
theorem c_A_129 : MLV "java/util/ArrayList" 129 y_A_grow "java/util/ArrayList" b_A_grow 1 (Option.some (Jvm.ClassFile.FieldType.array (Jvm.ClassFile.FieldType.object "java/lang/Object"))) 0 := ⟨⟨m_352, m_355, m_4, by decide, by decide +kernel⟩, m_354, sl_A_grow⟩
theorem c_A_131 : MLV "java/util/ArrayList" 131 y_A_add2 "java/util/ArrayList" b_A_add2 4 none 3 := ⟨⟨m_348, m_351, m_4, by decide, by decide +kernel⟩, m_350, sl_A_add2⟩
theorem c_AR_300 : MLS "java/util/Arrays" 300 y_AR_copyOf2 b_AR_copyOf2 4 (Option.some (Jvm.ClassFile.FieldType.array (Jvm.ClassFile.FieldType.object "java/lang/Object"))) 3 := ⟨⟨m_386, m_388, m_16, by decide, by decide +kernel⟩, m_387⟩
theorem c_AR_304 : MLS "java/util/Arrays" 304 y_MA_min b_MA_min 2 (Option.some Jvm.ClassFile.FieldType.int) 2 := ⟨⟨m_392, m_72, m_6, by decide, by decide +kernel⟩, m_71⟩
theorem c_OB_105 : MLS "java/util/Objects" 105 y_PC_checkIndex b_PC_checkIndex 3 (Option.some Jvm.ClassFile.FieldType.int) 3 := ⟨⟨m_173, m_175, m_20, by decide, by decide +kernel⟩, m_174⟩
theorem c_AS_194 : MLS "jdk/internal/util/ArraysSupport" 194 y_MA_max b_MA_max 2 (Option.some Jvm.ClassFile.FieldType.int) 2 := ⟨⟨m_363, m_75, m_6, by decide, by decide +kernel⟩, m_74⟩
set_option maxRecDepth 20000 in
theorem tw_UnsupportedOperationException : TW "RuleClasses" 82 86 "java/lang/UnsupportedOperationException" := ⟨by decide +kernel, by decide +kernel, m_284, m_13, by decide +kernel, by decide +kernel, by decide +kernel⟩
set_option maxRecDepth 20000 in
theorem tw_IllegalStateException : TW "RuleClasses" 161 165 "java/lang/IllegalStateException" := ⟨by decide +kernel, by decide +kernel, m_440, m_21, by decide +kernel, by decide +kernel, by decide +kernel⟩
set_option maxRecDepth 20000 in
theorem tw_ArithmeticException : TW "RuleClasses" 199 203 "java/lang/ArithmeticException" := ⟨by decide +kernel, by decide +kernel, m_635, m_22, by decide +kernel, by decide +kernel, by decide +kernel⟩
set_option maxRecDepth 20000 in
theorem tw_IllegalArgumentException : TW "RuleClasses" 213 217 "java/lang/IllegalArgumentException" := ⟨by decide +kernel, by decide +kernel, m_199, m_12, by decide +kernel, by decide +kernel, by decide +kernel⟩
