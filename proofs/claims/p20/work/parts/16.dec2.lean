theorem d_C_init_0 : decode b_C_init 0 = .ok (.aload_n 0, 1) := by decide +kernel
theorem d_C_init_1 : decode b_C_init 1 = .ok (.invokespecial 1, 3) := by decide +kernel
theorem d_C_init_4 : decode b_C_init 4 = .ok (.aload_n 0, 1) := by decide +kernel
theorem d_C_init_5 : decode b_C_init 5 = .ok (.new 7, 3) := by decide +kernel
theorem d_C_init_8 : decode b_C_init 8 = .ok (.dup, 1) := by decide +kernel
theorem d_C_init_9 : decode b_C_init 9 = .ok (.invokespecial 9, 3) := by decide +kernel
theorem d_C_init_12 : decode b_C_init 12 = .ok (.putfield 10, 3) := by decide +kernel
theorem d_C_init_15 : decode b_C_init 15 = .ok (.aload_n 0, 1) := by decide +kernel
theorem d_C_init_16 : decode b_C_init 16 = .ok (.new 7, 3) := by decide +kernel
theorem d_C_init_19 : decode b_C_init 19 = .ok (.dup, 1) := by decide +kernel
theorem d_C_init_20 : decode b_C_init 20 = .ok (.invokespecial 9, 3) := by decide +kernel
theorem d_C_init_23 : decode b_C_init 23 = .ok (.putfield 16, 3) := by decide +kernel
theorem d_C_init_26 : decode b_C_init 26 = .ok (.aload_n 0, 1) := by decide +kernel
theorem d_C_init_27 : decode b_C_init 27 = .ok (.new 19, 3) := by decide +kernel
theorem d_C_init_30 : decode b_C_init 30 = .ok (.dup, 1) := by decide +kernel
theorem d_C_init_31 : decode b_C_init 31 = .ok (.invokespecial 21, 3) := by decide +kernel
theorem d_C_init_34 : decode b_C_init 34 = .ok (.putfield 22, 3) := by decide +kernel
theorem d_C_init_37 : decode b_C_init 37 = .ok (.aload_n 0, 1) := by decide +kernel
theorem d_C_init_38 : decode b_C_init 38 = .ok (.iconst 3, 1) := by decide +kernel
theorem d_C_init_39 : decode b_C_init 39 = .ok (.newarray .int, 2) := by decide +kernel
theorem d_C_init_41 : decode b_C_init 41 = .ok (.putfield 26, 3) := by decide +kernel
theorem d_C_init_44 : decode b_C_init 44 = .ok (.aload_n 0, 1) := by decide +kernel
theorem d_C_init_45 : decode b_C_init 45 = .ok (.bipush 36, 2) := by decide +kernel
theorem d_C_init_47 : decode b_C_init 47 = .ok (.newarray .int, 2) := by decide +kernel
theorem d_C_init_49 : decode b_C_init 49 = .ok (.putfield 30, 3) := by decide +kernel
theorem d_C_init_52 : decode b_C_init 52 = .ok (.aload_n 0, 1) := by decide +kernel
theorem d_C_init_53 : decode b_C_init 53 = .ok (.bipush 18, 2) := by decide +kernel
theorem d_C_init_55 : decode b_C_init 55 = .ok (.newarray .int, 2) := by decide +kernel
theorem d_C_init_57 : decode b_C_init 57 = .ok (.putfield 33, 3) := by decide +kernel
theorem d_C_init_60 : decode b_C_init 60 = .ok (.aload_n 0, 1) := by decide +kernel
theorem d_C_init_61 : decode b_C_init 61 = .ok (.bipush 18, 2) := by decide +kernel
theorem d_C_init_63 : decode b_C_init 63 = .ok (.newarray .int, 2) := by decide +kernel
theorem d_C_init_65 : decode b_C_init 65 = .ok (.putfield 36, 3) := by decide +kernel
theorem d_C_init_68 : decode b_C_init 68 = .ok (.aload_n 0, 1) := by decide +kernel
theorem d_C_init_69 : decode b_C_init 69 = .ok (.iconst 0, 1) := by decide +kernel
theorem d_C_init_70 : decode b_C_init 70 = .ok (.iload_n 1, 1) := by decide +kernel
theorem d_C_init_71 : decode b_C_init 71 = .ok (.sipush 1000, 3) := by decide +kernel
theorem d_C_init_74 : decode b_C_init 74 = .ok (.invokestatic 39, 3) := by decide +kernel
theorem d_C_init_77 : decode b_C_init 77 = .ok (.invokestatic 45, 3) := by decide +kernel
theorem d_C_init_80 : decode b_C_init 80 = .ok (.putfield 48, 3) := by decide +kernel
theorem d_C_init_83 : decode b_C_init 83 = .ok (.aload_n 0, 1) := by decide +kernel
theorem d_C_init_84 : decode b_C_init 84 = .ok (.new 52, 3) := by decide +kernel
theorem d_C_init_87 : decode b_C_init 87 = .ok (.dup, 1) := by decide +kernel
theorem d_C_init_88 : decode b_C_init 88 = .ok (.aload_n 0, 1) := by decide +kernel
theorem d_C_init_89 : decode b_C_init 89 = .ok (.getfield 48, 3) := by decide +kernel
theorem d_C_init_92 : decode b_C_init 92 = .ok (.invokespecial 54, 3) := by decide +kernel
theorem d_C_init_95 : decode b_C_init 95 = .ok (.putfield 57, 3) := by decide +kernel
theorem d_C_init_98 : decode b_C_init 98 = .ok (.aload_n 0, 1) := by decide +kernel
theorem d_C_init_99 : decode b_C_init 99 = .ok (.new 52, 3) := by decide +kernel
theorem d_C_init_102 : decode b_C_init 102 = .ok (.dup, 1) := by decide +kernel
theorem d_C_init_103 : decode b_C_init 103 = .ok (.aload_n 0, 1) := by decide +kernel
theorem d_C_init_104 : decode b_C_init 104 = .ok (.getfield 48, 3) := by decide +kernel
theorem d_C_init_107 : decode b_C_init 107 = .ok (.invokespecial 54, 3) := by decide +kernel
theorem d_C_init_110 : decode b_C_init 110 = .ok (.putfield 61, 3) := by decide +kernel
theorem d_C_init_113 : decode b_C_init 113 = .ok (.iconst 0, 1) := by decide +kernel
theorem d_C_init_114 : decode b_C_init 114 = .ok (.istore_n 2, 1) := by decide +kernel
theorem d_C_init_115 : decode b_C_init 115 = .ok (.iload_n 2, 1) := by decide +kernel
theorem d_C_init_116 : decode b_C_init 116 = .ok (.aload_n 0, 1) := by decide +kernel
theorem d_C_init_117 : decode b_C_init 117 = .ok (.getfield 33, 3) := by decide +kernel
theorem d_C_init_120 : decode b_C_init 120 = .ok (.arraylength, 1) := by decide +kernel
theorem d_C_init_121 : decode b_C_init 121 = .ok (.if_icmp .ge 16, 3) := by decide +kernel
theorem d_C_init_124 : decode b_C_init 124 = .ok (.aload_n 0, 1) := by decide +kernel
theorem d_C_init_125 : decode b_C_init 125 = .ok (.getfield 33, 3) := by decide +kernel
theorem d_C_init_128 : decode b_C_init 128 = .ok (.iload_n 2, 1) := by decide +kernel
theorem d_C_init_129 : decode b_C_init 129 = .ok (.iconst (-1), 1) := by decide +kernel
theorem d_C_init_130 : decode b_C_init 130 = .ok (.iastore, 1) := by decide +kernel
theorem d_C_init_131 : decode b_C_init 131 = .ok (.iinc 2 1, 3) := by decide +kernel
theorem d_C_init_134 : decode b_C_init 134 = .ok (.goto (-19), 3) := by decide +kernel
theorem d_C_init_137 : decode b_C_init 137 = .ok (.return_, 1) := by decide +kernel
theorem d_C_count_0 : decode b_C_count 0 = .ok (.iload_n 1, 1) := by decide +kernel
theorem d_C_count_1 : decode b_C_count 1 = .ok (.tableswitch 93 0 7 #[47, 55, 60, 65, 70, 78, 83, 88], 47) := by decide +kernel
theorem d_C_count_48 : decode b_C_count 48 = .ok (.aload_n 0, 1) := by decide +kernel
theorem d_C_count_49 : decode b_C_count 49 = .ok (.getfield 10, 3) := by decide +kernel
theorem d_C_count_52 : decode b_C_count 52 = .ok (.invokevirtual 78, 3) := by decide +kernel
theorem d_C_count_55 : decode b_C_count 55 = .ok (.ireturn, 1) := by decide +kernel
theorem d_C_count_56 : decode b_C_count 56 = .ok (.aload_n 0, 1) := by decide +kernel
theorem d_C_count_57 : decode b_C_count 57 = .ok (.invokevirtual 207, 3) := by decide +kernel
theorem d_C_count_60 : decode b_C_count 60 = .ok (.ireturn, 1) := by decide +kernel
theorem d_C_count_61 : decode b_C_count 61 = .ok (.aload_n 0, 1) := by decide +kernel
theorem d_C_count_62 : decode b_C_count 62 = .ok (.getfield 134, 3) := by decide +kernel
theorem d_C_count_65 : decode b_C_count 65 = .ok (.ireturn, 1) := by decide +kernel
theorem d_C_count_66 : decode b_C_count 66 = .ok (.aload_n 0, 1) := by decide +kernel
theorem d_C_count_67 : decode b_C_count 67 = .ok (.invokevirtual 210, 3) := by decide +kernel
theorem d_C_count_70 : decode b_C_count 70 = .ok (.ireturn, 1) := by decide +kernel
theorem d_C_count_71 : decode b_C_count 71 = .ok (.aload_n 0, 1) := by decide +kernel
theorem d_C_count_72 : decode b_C_count 72 = .ok (.getfield 16, 3) := by decide +kernel
theorem d_C_count_75 : decode b_C_count 75 = .ok (.invokevirtual 78, 3) := by decide +kernel
theorem d_C_count_78 : decode b_C_count 78 = .ok (.ireturn, 1) := by decide +kernel
theorem d_C_count_79 : decode b_C_count 79 = .ok (.aload_n 0, 1) := by decide +kernel
theorem d_C_count_80 : decode b_C_count 80 = .ok (.getfield 166, 3) := by decide +kernel
theorem d_C_count_83 : decode b_C_count 83 = .ok (.ireturn, 1) := by decide +kernel
theorem d_C_count_84 : decode b_C_count 84 = .ok (.aload_n 0, 1) := by decide +kernel
theorem d_C_count_85 : decode b_C_count 85 = .ok (.getfield 64, 3) := by decide +kernel
theorem d_C_count_88 : decode b_C_count 88 = .ok (.ireturn, 1) := by decide +kernel
theorem d_C_count_89 : decode b_C_count 89 = .ok (.aload_n 0, 1) := by decide +kernel
theorem d_C_count_90 : decode b_C_count 90 = .ok (.getfield 48, 3) := by decide +kernel
theorem d_C_count_93 : decode b_C_count 93 = .ok (.ireturn, 1) := by decide +kernel
theorem d_C_count_94 : decode b_C_count 94 = .ok (.iconst (-1), 1) := by decide +kernel
theorem d_C_count_95 : decode b_C_count 95 = .ok (.ireturn, 1) := by decide +kernel
theorem d_C_madeEditions_0 : decode b_C_madeEditions 0 = .ok (.iconst 0, 1) := by decide +kernel
theorem d_C_madeEditions_1 : decode b_C_madeEditions 1 = .ok (.istore_n 1, 1) := by decide +kernel
theorem d_C_madeEditions_2 : decode b_C_madeEditions 2 = .ok (.iconst 0, 1) := by decide +kernel
theorem d_C_madeEditions_3 : decode b_C_madeEditions 3 = .ok (.istore_n 2, 1) := by decide +kernel
theorem d_C_madeEditions_4 : decode b_C_madeEditions 4 = .ok (.iload_n 2, 1) := by decide +kernel
theorem d_C_madeEditions_5 : decode b_C_madeEditions 5 = .ok (.aload_n 0, 1) := by decide +kernel
theorem d_C_madeEditions_6 : decode b_C_madeEditions 6 = .ok (.getfield 10, 3) := by decide +kernel
theorem d_C_madeEditions_9 : decode b_C_madeEditions 9 = .ok (.invokevirtual 78, 3) := by decide +kernel
theorem d_C_madeEditions_12 : decode b_C_madeEditions 12 = .ok (.if_icmp .ge 29, 3) := by decide +kernel
theorem d_C_madeEditions_15 : decode b_C_madeEditions 15 = .ok (.aload_n 0, 1) := by decide +kernel
theorem d_C_madeEditions_16 : decode b_C_madeEditions 16 = .ok (.getfield 10, 3) := by decide +kernel
theorem d_C_madeEditions_19 : decode b_C_madeEditions 19 = .ok (.iload_n 2, 1) := by decide +kernel
theorem d_C_madeEditions_20 : decode b_C_madeEditions 20 = .ok (.invokevirtual 144, 3) := by decide +kernel
theorem d_C_madeEditions_23 : decode b_C_madeEditions 23 = .ok (.checkcast 89, 3) := by decide +kernel
theorem d_C_madeEditions_26 : decode b_C_madeEditions 26 = .ok (.getfield 127, 3) := by decide +kernel
theorem d_C_madeEditions_29 : decode b_C_madeEditions 29 = .ok (.ifCond .eq 6, 3) := by decide +kernel
theorem d_C_madeEditions_32 : decode b_C_madeEditions 32 = .ok (.iinc 1 1, 3) := by decide +kernel
theorem d_C_madeEditions_35 : decode b_C_madeEditions 35 = .ok (.iinc 2 1, 3) := by decide +kernel
theorem d_C_madeEditions_38 : decode b_C_madeEditions 38 = .ok (.goto (-34), 3) := by decide +kernel
theorem d_C_madeEditions_41 : decode b_C_madeEditions 41 = .ok (.iload_n 1, 1) := by decide +kernel
theorem d_C_madeEditions_42 : decode b_C_madeEditions 42 = .ok (.ireturn, 1) := by decide +kernel
theorem d_C_failedQuestions_0 : decode b_C_failedQuestions 0 = .ok (.iconst 0, 1) := by decide +kernel
theorem d_C_failedQuestions_1 : decode b_C_failedQuestions 1 = .ok (.istore_n 1, 1) := by decide +kernel
theorem d_C_failedQuestions_2 : decode b_C_failedQuestions 2 = .ok (.iconst 0, 1) := by decide +kernel
theorem d_C_failedQuestions_3 : decode b_C_failedQuestions 3 = .ok (.istore_n 2, 1) := by decide +kernel
theorem d_C_failedQuestions_4 : decode b_C_failedQuestions 4 = .ok (.iload_n 2, 1) := by decide +kernel
theorem d_C_failedQuestions_5 : decode b_C_failedQuestions 5 = .ok (.aload_n 0, 1) := by decide +kernel
theorem d_C_failedQuestions_6 : decode b_C_failedQuestions 6 = .ok (.getfield 30, 3) := by decide +kernel
theorem d_C_failedQuestions_9 : decode b_C_failedQuestions 9 = .ok (.arraylength, 1) := by decide +kernel
theorem d_C_failedQuestions_10 : decode b_C_failedQuestions 10 = .ok (.if_icmp .ge 18, 3) := by decide +kernel
theorem d_C_failedQuestions_13 : decode b_C_failedQuestions 13 = .ok (.iload_n 1, 1) := by decide +kernel
theorem d_C_failedQuestions_14 : decode b_C_failedQuestions 14 = .ok (.aload_n 0, 1) := by decide +kernel
theorem d_C_failedQuestions_15 : decode b_C_failedQuestions 15 = .ok (.getfield 30, 3) := by decide +kernel
theorem d_C_failedQuestions_18 : decode b_C_failedQuestions 18 = .ok (.iload_n 2, 1) := by decide +kernel
theorem d_C_failedQuestions_19 : decode b_C_failedQuestions 19 = .ok (.iaload, 1) := by decide +kernel
theorem d_C_failedQuestions_20 : decode b_C_failedQuestions 20 = .ok (.iadd, 1) := by decide +kernel
theorem d_C_failedQuestions_21 : decode b_C_failedQuestions 21 = .ok (.istore_n 1, 1) := by decide +kernel
theorem d_C_failedQuestions_22 : decode b_C_failedQuestions 22 = .ok (.iinc 2 1, 3) := by decide +kernel
theorem d_C_failedQuestions_25 : decode b_C_failedQuestions 25 = .ok (.goto (-21), 3) := by decide +kernel
theorem d_C_failedQuestions_28 : decode b_C_failedQuestions 28 = .ok (.iload_n 1, 1) := by decide +kernel
theorem d_C_failedQuestions_29 : decode b_C_failedQuestions 29 = .ok (.ireturn, 1) := by decide +kernel
theorem d_C_today_0 : decode b_C_today 0 = .ok (.iload_n 1, 1) := by decide +kernel
theorem d_C_today_1 : decode b_C_today 1 = .ok (.aload_n 0, 1) := by decide +kernel
theorem d_C_today_2 : decode b_C_today 2 = .ok (.getfield 64, 3) := by decide +kernel
theorem d_C_today_5 : decode b_C_today 5 = .ok (.sipush 1000, 3) := by decide +kernel
theorem d_C_today_8 : decode b_C_today 8 = .ok (.invokestatic 67, 3) := by decide +kernel
theorem d_C_today_11 : decode b_C_today 11 = .ok (.aload_n 0, 1) := by decide +kernel
theorem d_C_today_12 : decode b_C_today 12 = .ok (.invokevirtual 71, 3) := by decide +kernel
theorem d_C_today_15 : decode b_C_today 15 = .ok (.aload_n 0, 1) := by decide +kernel
theorem d_C_today_16 : decode b_C_today 16 = .ok (.iload_n 1, 1) := by decide +kernel
theorem d_C_today_17 : decode b_C_today 17 = .ok (.putfield 64, 3) := by decide +kernel
theorem d_C_today_20 : decode b_C_today 20 = .ok (.return_, 1) := by decide +kernel
theorem d_C_requireRange_0 : decode b_C_requireRange 0 = .ok (.iload_n 0, 1) := by decide +kernel
theorem d_C_requireRange_1 : decode b_C_requireRange 1 = .ok (.iload_n 1, 1) := by decide +kernel
theorem d_C_requireRange_2 : decode b_C_requireRange 2 = .ok (.if_icmp .lt 8, 3) := by decide +kernel
theorem d_C_requireRange_5 : decode b_C_requireRange 5 = .ok (.iload_n 0, 1) := by decide +kernel
theorem d_C_requireRange_6 : decode b_C_requireRange 6 = .ok (.iload_n 2, 1) := by decide +kernel
theorem d_C_requireRange_7 : decode b_C_requireRange 7 = .ok (.if_icmp .le 13, 3) := by decide +kernel
theorem d_C_requireRange_10 : decode b_C_requireRange 10 = .ok (.new 213, 3) := by decide +kernel
theorem d_C_requireRange_13 : decode b_C_requireRange 13 = .ok (.dup, 1) := by decide +kernel
theorem d_C_requireRange_14 : decode b_C_requireRange 14 = .ok (.ldc 215, 2) := by decide +kernel
theorem d_C_requireRange_16 : decode b_C_requireRange 16 = .ok (.invokespecial 217, 3) := by decide +kernel
theorem d_C_requireRange_19 : decode b_C_requireRange 19 = .ok (.athrow, 1) := by decide +kernel
theorem d_C_requireRange_20 : decode b_C_requireRange 20 = .ok (.return_, 1) := by decide +kernel
theorem d_C_endHandle_0 : decode b_C_endHandle 0 = .ok (.aload_n 0, 1) := by decide +kernel
theorem d_C_endHandle_1 : decode b_C_endHandle 1 = .ok (.iconst 0, 1) := by decide +kernel
theorem d_C_endHandle_2 : decode b_C_endHandle 2 = .ok (.putfield 171, 3) := by decide +kernel
theorem d_C_endHandle_5 : decode b_C_endHandle 5 = .ok (.return_, 1) := by decide +kernel
theorem d_C_rule_0 : decode b_C_rule 0 = .ok (.iload_n 1, 1) := by decide +kernel
theorem d_C_rule_1 : decode b_C_rule 1 = .ok (.iload_n 2, 1) := by decide +kernel
theorem d_C_rule_2 : decode b_C_rule 2 = .ok (.invokestatic 74, 3) := by decide +kernel
theorem d_C_rule_5 : decode b_C_rule 5 = .ok (.iload_n 3, 1) := by decide +kernel
theorem d_C_rule_6 : decode b_C_rule 6 = .ok (.iconst 0, 1) := by decide +kernel
theorem d_C_rule_7 : decode b_C_rule 7 = .ok (.sipush 1000, 3) := by decide +kernel
theorem d_C_rule_10 : decode b_C_rule 10 = .ok (.invokestatic 67, 3) := by decide +kernel
theorem d_C_rule_13 : decode b_C_rule 13 = .ok (.aload_n 0, 1) := by decide +kernel
theorem d_C_rule_14 : decode b_C_rule 14 = .ok (.getfield 10, 3) := by decide +kernel
theorem d_C_rule_17 : decode b_C_rule 17 = .ok (.invokevirtual 78, 3) := by decide +kernel
theorem d_C_rule_20 : decode b_C_rule 20 = .ok (.bipush 24, 2) := by decide +kernel
theorem d_C_rule_22 : decode b_C_rule 22 = .ok (.if_icmp .lt 13, 3) := by decide +kernel
theorem d_C_rule_25 : decode b_C_rule 25 = .ok (.new 82, 3) := by decide +kernel
theorem d_C_rule_28 : decode b_C_rule 28 = .ok (.dup, 1) := by decide +kernel
theorem d_C_rule_29 : decode b_C_rule 29 = .ok (.ldc 84, 2) := by decide +kernel
theorem d_C_rule_31 : decode b_C_rule 31 = .ok (.invokespecial 86, 3) := by decide +kernel
theorem d_C_rule_34 : decode b_C_rule 34 = .ok (.athrow, 1) := by decide +kernel
theorem d_C_rule_35 : decode b_C_rule 35 = .ok (.aload_n 0, 1) := by decide +kernel
theorem d_C_rule_36 : decode b_C_rule 36 = .ok (.getfield 10, 3) := by decide +kernel
theorem d_C_rule_39 : decode b_C_rule 39 = .ok (.new 89, 3) := by decide +kernel
theorem d_C_rule_42 : decode b_C_rule 42 = .ok (.dup, 1) := by decide +kernel
theorem d_C_rule_43 : decode b_C_rule 43 = .ok (.iload_n 1, 1) := by decide +kernel
theorem d_C_rule_44 : decode b_C_rule 44 = .ok (.iload_n 2, 1) := by decide +kernel
theorem d_C_rule_45 : decode b_C_rule 45 = .ok (.iload_n 3, 1) := by decide +kernel
theorem d_C_rule_46 : decode b_C_rule 46 = .ok (.invokespecial 91, 3) := by decide +kernel
theorem d_C_rule_49 : decode b_C_rule 49 = .ok (.invokevirtual 93, 3) := by decide +kernel
theorem d_C_rule_52 : decode b_C_rule 52 = .ok (.pop, 1) := by decide +kernel
theorem d_C_rule_53 : decode b_C_rule 53 = .ok (.aload_n 0, 1) := by decide +kernel
theorem d_C_rule_54 : decode b_C_rule 54 = .ok (.getfield 10, 3) := by decide +kernel
theorem d_C_rule_57 : decode b_C_rule 57 = .ok (.invokevirtual 78, 3) := by decide +kernel
theorem d_C_rule_60 : decode b_C_rule 60 = .ok (.iconst 1, 1) := by decide +kernel
theorem d_C_rule_61 : decode b_C_rule 61 = .ok (.isub, 1) := by decide +kernel
theorem d_C_rule_62 : decode b_C_rule 62 = .ok (.ireturn, 1) := by decide +kernel
theorem d_C_requireOwnerAndKind_0 : decode b_C_requireOwnerAndKind 0 = .ok (.iload_n 0, 1) := by decide +kernel
theorem d_C_requireOwnerAndKind_1 : decode b_C_requireOwnerAndKind 1 = .ok (.iconst 0, 1) := by decide +kernel
theorem d_C_requireOwnerAndKind_2 : decode b_C_requireOwnerAndKind 2 = .ok (.iconst 5, 1) := by decide +kernel
theorem d_C_requireOwnerAndKind_3 : decode b_C_requireOwnerAndKind 3 = .ok (.invokestatic 67, 3) := by decide +kernel
theorem d_C_requireOwnerAndKind_6 : decode b_C_requireOwnerAndKind 6 = .ok (.iload_n 1, 1) := by decide +kernel
theorem d_C_requireOwnerAndKind_7 : decode b_C_requireOwnerAndKind 7 = .ok (.iconst 0, 1) := by decide +kernel
theorem d_C_requireOwnerAndKind_8 : decode b_C_requireOwnerAndKind 8 = .ok (.iconst 2, 1) := by decide +kernel
theorem d_C_requireOwnerAndKind_9 : decode b_C_requireOwnerAndKind 9 = .ok (.invokestatic 67, 3) := by decide +kernel
theorem d_C_requireOwnerAndKind_12 : decode b_C_requireOwnerAndKind 12 = .ok (.return_, 1) := by decide +kernel
theorem d_C_op_0 : decode b_C_op 0 = .ok (.aload_n 0, 1) := by decide +kernel
theorem d_C_op_1 : decode b_C_op 1 = .ok (.iload_n 1, 1) := by decide +kernel
theorem d_C_op_2 : decode b_C_op 2 = .ok (.invokevirtual 97, 3) := by decide +kernel
theorem d_C_op_5 : decode b_C_op 5 = .ok (.astore 4, 2) := by decide +kernel
theorem d_C_op_7 : decode b_C_op 7 = .ok (.iload_n 2, 1) := by decide +kernel
theorem d_C_op_8 : decode b_C_op 8 = .ok (.iconst 0, 1) := by decide +kernel
theorem d_C_op_9 : decode b_C_op 9 = .ok (.bipush 10, 2) := by decide +kernel
theorem d_C_op_11 : decode b_C_op 11 = .ok (.invokestatic 67, 3) := by decide +kernel
theorem d_C_op_14 : decode b_C_op 14 = .ok (.iload_n 3, 1) := by decide +kernel
theorem d_C_op_15 : decode b_C_op 15 = .ok (.iload_n 2, 1) := by decide +kernel
theorem d_C_op_16 : decode b_C_op 16 = .ok (.invokestatic 101, 3) := by decide +kernel
theorem d_C_op_19 : decode b_C_op 19 = .ok (.iload_n 2, 1) := by decide +kernel
theorem d_C_op_20 : decode b_C_op 20 = .ok (.invokestatic 105, 3) := by decide +kernel
theorem d_C_op_23 : decode b_C_op 23 = .ok (.invokestatic 67, 3) := by decide +kernel
theorem d_C_op_26 : decode b_C_op 26 = .ok (.aload 4, 2) := by decide +kernel
theorem d_C_op_28 : decode b_C_op 28 = .ok (.invokestatic 108, 3) := by decide +kernel
theorem d_C_op_31 : decode b_C_op 31 = .ok (.aload 4, 2) := by decide +kernel
theorem d_C_op_33 : decode b_C_op 33 = .ok (.getfield 112, 3) := by decide +kernel
theorem d_C_op_36 : decode b_C_op 36 = .ok (.bipush 16, 2) := by decide +kernel
theorem d_C_op_38 : decode b_C_op 38 = .ok (.if_icmp .lt 13, 3) := by decide +kernel
theorem d_C_op_41 : decode b_C_op 41 = .ok (.new 82, 3) := by decide +kernel
theorem d_C_op_44 : decode b_C_op 44 = .ok (.dup, 1) := by decide +kernel
theorem d_C_op_45 : decode b_C_op 45 = .ok (.ldc 115, 2) := by decide +kernel
theorem d_C_op_47 : decode b_C_op 47 = .ok (.invokespecial 86, 3) := by decide +kernel
theorem d_C_op_50 : decode b_C_op 50 = .ok (.athrow, 1) := by decide +kernel
theorem d_C_op_51 : decode b_C_op 51 = .ok (.aload 4, 2) := by decide +kernel
theorem d_C_op_53 : decode b_C_op 53 = .ok (.iload_n 2, 1) := by decide +kernel
theorem d_C_op_54 : decode b_C_op 54 = .ok (.iload_n 3, 1) := by decide +kernel
theorem d_C_op_55 : decode b_C_op 55 = .ok (.invokevirtual 117, 3) := by decide +kernel
theorem d_C_op_58 : decode b_C_op 58 = .ok (.aload 4, 2) := by decide +kernel
theorem d_C_op_60 : decode b_C_op 60 = .ok (.getfield 112, 3) := by decide +kernel
theorem d_C_op_63 : decode b_C_op 63 = .ok (.ireturn, 1) := by decide +kernel
theorem d_C_editionAt_0 : decode b_C_editionAt 0 = .ok (.aload_n 0, 1) := by decide +kernel
theorem d_C_editionAt_1 : decode b_C_editionAt 1 = .ok (.iload_n 1, 1) := by decide +kernel
theorem d_C_editionAt_2 : decode b_C_editionAt 2 = .ok (.invokevirtual 196, 3) := by decide +kernel
theorem d_C_editionAt_5 : decode b_C_editionAt 5 = .ok (.aload_n 0, 1) := by decide +kernel
theorem d_C_editionAt_6 : decode b_C_editionAt 6 = .ok (.getfield 10, 3) := by decide +kernel
theorem d_C_editionAt_9 : decode b_C_editionAt 9 = .ok (.iload_n 1, 1) := by decide +kernel
theorem d_C_editionAt_10 : decode b_C_editionAt 10 = .ok (.invokevirtual 144, 3) := by decide +kernel
theorem d_C_editionAt_13 : decode b_C_editionAt 13 = .ok (.checkcast 89, 3) := by decide +kernel
theorem d_C_editionAt_16 : decode b_C_editionAt 16 = .ok (.areturn, 1) := by decide +kernel
theorem d_C_requireEdition_0 : decode b_C_requireEdition 0 = .ok (.iload_n 1, 1) := by decide +kernel
theorem d_C_requireEdition_1 : decode b_C_requireEdition 1 = .ok (.ifCond .lt 14, 3) := by decide +kernel
theorem d_C_requireEdition_4 : decode b_C_requireEdition 4 = .ok (.iload_n 1, 1) := by decide +kernel
theorem d_C_requireEdition_5 : decode b_C_requireEdition 5 = .ok (.aload_n 0, 1) := by decide +kernel
theorem d_C_requireEdition_6 : decode b_C_requireEdition 6 = .ok (.getfield 10, 3) := by decide +kernel
theorem d_C_requireEdition_9 : decode b_C_requireEdition 9 = .ok (.invokevirtual 78, 3) := by decide +kernel
theorem d_C_requireEdition_12 : decode b_C_requireEdition 12 = .ok (.if_icmp .lt 13, 3) := by decide +kernel
theorem d_C_requireEdition_15 : decode b_C_requireEdition 15 = .ok (.new 220, 3) := by decide +kernel
theorem d_C_requireEdition_18 : decode b_C_requireEdition 18 = .ok (.dup, 1) := by decide +kernel
theorem d_C_requireEdition_19 : decode b_C_requireEdition 19 = .ok (.ldc 222, 2) := by decide +kernel
theorem d_C_requireEdition_21 : decode b_C_requireEdition 21 = .ok (.invokespecial 224, 3) := by decide +kernel
theorem d_C_requireEdition_24 : decode b_C_requireEdition 24 = .ok (.athrow, 1) := by decide +kernel
theorem d_C_requireEdition_25 : decode b_C_requireEdition 25 = .ok (.return_, 1) := by decide +kernel
theorem d_C_leastConstant_0 : decode b_C_leastConstant 0 = .ok (.iload_n 0, 1) := by decide +kernel
theorem d_C_leastConstant_1 : decode b_C_leastConstant 1 = .ok (.ifCond .ne 9, 3) := by decide +kernel
theorem d_C_leastConstant_4 : decode b_C_leastConstant 4 = .ok (.sipush (-10000), 3) := by decide +kernel
theorem d_C_leastConstant_7 : decode b_C_leastConstant 7 = .ok (.goto 4, 3) := by decide +kernel
theorem d_C_leastConstant_10 : decode b_C_leastConstant 10 = .ok (.iconst 0, 1) := by decide +kernel
theorem d_C_leastConstant_11 : decode b_C_leastConstant 11 = .ok (.ireturn, 1) := by decide +kernel
theorem d_C_greatestConstant_0 : decode b_C_greatestConstant 0 = .ok (.iload_n 0, 1) := by decide +kernel
theorem d_C_greatestConstant_1 : decode b_C_greatestConstant 1 = .ok (.lookupswitch 45 #[(0, 35), (1, 39), (8, 42)], 35) := by decide +kernel
theorem d_C_greatestConstant_36 : decode b_C_greatestConstant 36 = .ok (.sipush 10000, 3) := by decide +kernel
theorem d_C_greatestConstant_39 : decode b_C_greatestConstant 39 = .ok (.ireturn, 1) := by decide +kernel
theorem d_C_greatestConstant_40 : decode b_C_greatestConstant 40 = .ok (.bipush 7, 2) := by decide +kernel
theorem d_C_greatestConstant_42 : decode b_C_greatestConstant 42 = .ok (.ireturn, 1) := by decide +kernel
theorem d_C_greatestConstant_43 : decode b_C_greatestConstant 43 = .ok (.bipush 15, 2) := by decide +kernel
theorem d_C_greatestConstant_45 : decode b_C_greatestConstant 45 = .ok (.ireturn, 1) := by decide +kernel
theorem d_C_greatestConstant_46 : decode b_C_greatestConstant 46 = .ok (.iconst 0, 1) := by decide +kernel
theorem d_C_greatestConstant_47 : decode b_C_greatestConstant 47 = .ok (.ireturn, 1) := by decide +kernel
theorem d_C_requireNotMade_0 : decode b_C_requireNotMade 0 = .ok (.aload_n 0, 1) := by decide +kernel
theorem d_C_requireNotMade_1 : decode b_C_requireNotMade 1 = .ok (.getfield 127, 3) := by decide +kernel
theorem d_C_requireNotMade_4 : decode b_C_requireNotMade 4 = .ok (.ifCond .eq 13, 3) := by decide +kernel
theorem d_C_requireNotMade_7 : decode b_C_requireNotMade 7 = .ok (.new 161, 3) := by decide +kernel
theorem d_C_requireNotMade_10 : decode b_C_requireNotMade 10 = .ok (.dup, 1) := by decide +kernel
theorem d_C_requireNotMade_11 : decode b_C_requireNotMade 11 = .ok (.ldc 218, 2) := by decide +kernel
theorem d_C_requireNotMade_13 : decode b_C_requireNotMade 13 = .ok (.invokespecial 165, 3) := by decide +kernel
theorem d_C_requireNotMade_16 : decode b_C_requireNotMade 16 = .ok (.athrow, 1) := by decide +kernel
theorem d_C_requireNotMade_17 : decode b_C_requireNotMade 17 = .ok (.return_, 1) := by decide +kernel
theorem d_C_make_0 : decode b_C_make 0 = .ok (.aload_n 0, 1) := by decide +kernel
theorem d_C_make_1 : decode b_C_make 1 = .ok (.iload_n 1, 1) := by decide +kernel
theorem d_C_make_2 : decode b_C_make 2 = .ok (.invokevirtual 97, 3) := by decide +kernel
theorem d_C_make_5 : decode b_C_make 5 = .ok (.astore_n 2, 1) := by decide +kernel
theorem d_C_make_6 : decode b_C_make 6 = .ok (.aload_n 2, 1) := by decide +kernel
theorem d_C_make_7 : decode b_C_make 7 = .ok (.invokestatic 108, 3) := by decide +kernel
theorem d_C_make_10 : decode b_C_make 10 = .ok (.aload_n 0, 1) := by decide +kernel
theorem d_C_make_11 : decode b_C_make 11 = .ok (.invokevirtual 71, 3) := by decide +kernel
theorem d_C_make_14 : decode b_C_make 14 = .ok (.aload_n 0, 1) := by decide +kernel
theorem d_C_make_15 : decode b_C_make 15 = .ok (.getfield 57, 3) := by decide +kernel
theorem d_C_make_18 : decode b_C_make 18 = .ok (.aload_n 2, 1) := by decide +kernel
theorem d_C_make_19 : decode b_C_make 19 = .ok (.aload_n 0, 1) := by decide +kernel
theorem d_C_make_20 : decode b_C_make 20 = .ok (.getfield 22, 3) := by decide +kernel
theorem d_C_make_23 : decode b_C_make 23 = .ok (.invokevirtual 120, 3) := by decide +kernel
theorem d_C_make_26 : decode b_C_make 26 = .ok (.aload_n 0, 1) := by decide +kernel
theorem d_C_make_27 : decode b_C_make 27 = .ok (.getfield 57, 3) := by decide +kernel
theorem d_C_make_30 : decode b_C_make 30 = .ok (.getfield 124, 3) := by decide +kernel
theorem d_C_make_33 : decode b_C_make 33 = .ok (.bipush 6, 2) := by decide +kernel
theorem d_C_make_35 : decode b_C_make 35 = .ok (.if_icmp .eq 12, 3) := by decide +kernel
theorem d_C_make_38 : decode b_C_make 38 = .ok (.aload_n 0, 1) := by decide +kernel
theorem d_C_make_39 : decode b_C_make 39 = .ok (.getfield 57, 3) := by decide +kernel
theorem d_C_make_42 : decode b_C_make 42 = .ok (.getfield 124, 3) := by decide +kernel
theorem d_C_make_45 : decode b_C_make 45 = .ok (.ineg, 1) := by decide +kernel
theorem d_C_make_46 : decode b_C_make 46 = .ok (.ireturn, 1) := by decide +kernel
theorem d_C_make_47 : decode b_C_make 47 = .ok (.aload_n 2, 1) := by decide +kernel
theorem d_C_make_48 : decode b_C_make 48 = .ok (.iconst 1, 1) := by decide +kernel
theorem d_C_make_49 : decode b_C_make 49 = .ok (.putfield 127, 3) := by decide +kernel
theorem d_C_make_52 : decode b_C_make 52 = .ok (.iconst 0, 1) := by decide +kernel
theorem d_C_make_53 : decode b_C_make 53 = .ok (.ireturn, 1) := by decide +kernel
theorem d_C_fact_0 : decode b_C_fact 0 = .ok (.iload_n 1, 1) := by decide +kernel
theorem d_C_fact_1 : decode b_C_fact 1 = .ok (.iconst 0, 1) := by decide +kernel
theorem d_C_fact_2 : decode b_C_fact 2 = .ok (.bipush 7, 2) := by decide +kernel
theorem d_C_fact_4 : decode b_C_fact 4 = .ok (.invokestatic 67, 3) := by decide +kernel
theorem d_C_fact_7 : decode b_C_fact 7 = .ok (.iload_n 2, 1) := by decide +kernel
theorem d_C_fact_8 : decode b_C_fact 8 = .ok (.sipush (-10000), 3) := by decide +kernel
theorem d_C_fact_11 : decode b_C_fact 11 = .ok (.sipush 10000, 3) := by decide +kernel
theorem d_C_fact_14 : decode b_C_fact 14 = .ok (.invokestatic 67, 3) := by decide +kernel
theorem d_C_fact_17 : decode b_C_fact 17 = .ok (.aload_n 0, 1) := by decide +kernel
theorem d_C_fact_18 : decode b_C_fact 18 = .ok (.getfield 22, 3) := by decide +kernel
theorem d_C_fact_21 : decode b_C_fact 21 = .ok (.getfield 131, 3) := by decide +kernel
theorem d_C_fact_24 : decode b_C_fact 24 = .ok (.iload_n 1, 1) := by decide +kernel
theorem d_C_fact_25 : decode b_C_fact 25 = .ok (.iload_n 2, 1) := by decide +kernel
theorem d_C_fact_26 : decode b_C_fact 26 = .ok (.iastore, 1) := by decide +kernel
theorem d_C_fact_27 : decode b_C_fact 27 = .ok (.return_, 1) := by decide +kernel
theorem d_C_ask_0 : decode b_C_ask 0 = .ok (.iload_n 1, 1) := by decide +kernel
theorem d_C_ask_1 : decode b_C_ask 1 = .ok (.iload_n 2, 1) := by decide +kernel
theorem d_C_ask_2 : decode b_C_ask 2 = .ok (.invokestatic 74, 3) := by decide +kernel
theorem d_C_ask_5 : decode b_C_ask 5 = .ok (.aload_n 0, 1) := by decide +kernel
theorem d_C_ask_6 : decode b_C_ask 6 = .ok (.invokevirtual 71, 3) := by decide +kernel
theorem d_C_ask_9 : decode b_C_ask 9 = .ok (.aload_n 0, 1) := by decide +kernel
theorem d_C_ask_10 : decode b_C_ask 10 = .ok (.dup, 1) := by decide +kernel
theorem d_C_ask_11 : decode b_C_ask 11 = .ok (.getfield 134, 3) := by decide +kernel
theorem d_C_ask_14 : decode b_C_ask 14 = .ok (.iconst 1, 1) := by decide +kernel
theorem d_C_ask_15 : decode b_C_ask 15 = .ok (.iadd, 1) := by decide +kernel
theorem d_C_ask_16 : decode b_C_ask 16 = .ok (.putfield 134, 3) := by decide +kernel
theorem d_C_ask_19 : decode b_C_ask 19 = .ok (.aload_n 0, 1) := by decide +kernel
theorem d_C_ask_20 : decode b_C_ask 20 = .ok (.iload_n 1, 1) := by decide +kernel
theorem d_C_ask_21 : decode b_C_ask 21 = .ok (.iload_n 2, 1) := by decide +kernel
theorem d_C_ask_22 : decode b_C_ask 22 = .ok (.aload_n 0, 1) := by decide +kernel
theorem d_C_ask_23 : decode b_C_ask 23 = .ok (.getfield 64, 3) := by decide +kernel
theorem d_C_ask_26 : decode b_C_ask 26 = .ok (.invokevirtual 137, 3) := by decide +kernel
theorem d_C_ask_29 : decode b_C_ask 29 = .ok (.istore_n 3, 1) := by decide +kernel
theorem d_C_ask_30 : decode b_C_ask 30 = .ok (.iload_n 3, 1) := by decide +kernel
theorem d_C_ask_31 : decode b_C_ask 31 = .ok (.iconst (-1), 1) := by decide +kernel
theorem d_C_ask_32 : decode b_C_ask 32 = .ok (.if_icmp .ne 13, 3) := by decide +kernel
theorem d_C_ask_35 : decode b_C_ask 35 = .ok (.aload_n 0, 1) := by decide +kernel
theorem d_C_ask_36 : decode b_C_ask 36 = .ok (.getfield 57, 3) := by decide +kernel
theorem d_C_ask_39 : decode b_C_ask 39 = .ok (.invokevirtual 141, 3) := by decide +kernel
theorem d_C_ask_42 : decode b_C_ask 42 = .ok (.goto 25, 3) := by decide +kernel
theorem d_C_ask_45 : decode b_C_ask 45 = .ok (.aload_n 0, 1) := by decide +kernel
theorem d_C_ask_46 : decode b_C_ask 46 = .ok (.getfield 57, 3) := by decide +kernel
theorem d_C_ask_49 : decode b_C_ask 49 = .ok (.aload_n 0, 1) := by decide +kernel
theorem d_C_ask_50 : decode b_C_ask 50 = .ok (.getfield 10, 3) := by decide +kernel
theorem d_C_ask_53 : decode b_C_ask 53 = .ok (.iload_n 3, 1) := by decide +kernel
theorem d_C_ask_54 : decode b_C_ask 54 = .ok (.invokevirtual 144, 3) := by decide +kernel
theorem d_C_ask_57 : decode b_C_ask 57 = .ok (.checkcast 89, 3) := by decide +kernel
theorem d_C_ask_60 : decode b_C_ask 60 = .ok (.aload_n 0, 1) := by decide +kernel
theorem d_C_ask_61 : decode b_C_ask 61 = .ok (.getfield 22, 3) := by decide +kernel
theorem d_C_ask_64 : decode b_C_ask 64 = .ok (.invokevirtual 120, 3) := by decide +kernel
theorem d_C_ask_67 : decode b_C_ask 67 = .ok (.aload_n 0, 1) := by decide +kernel
theorem d_C_ask_68 : decode b_C_ask 68 = .ok (.iload_n 1, 1) := by decide +kernel
theorem d_C_ask_69 : decode b_C_ask 69 = .ok (.iload_n 2, 1) := by decide +kernel
theorem d_C_ask_70 : decode b_C_ask 70 = .ok (.invokestatic 148, 3) := by decide +kernel
theorem d_C_ask_73 : decode b_C_ask 73 = .ok (.invokevirtual 151, 3) := by decide +kernel
theorem d_C_ask_76 : decode b_C_ask 76 = .ok (.iload_n 3, 1) := by decide +kernel
theorem d_C_ask_77 : decode b_C_ask 77 = .ok (.iconst (-1), 1) := by decide +kernel
theorem d_C_ask_78 : decode b_C_ask 78 = .ok (.if_icmp .eq 21, 3) := by decide +kernel
theorem d_C_ask_81 : decode b_C_ask 81 = .ok (.aload_n 0, 1) := by decide +kernel
theorem d_C_ask_82 : decode b_C_ask 82 = .ok (.getfield 10, 3) := by decide +kernel
theorem d_C_ask_85 : decode b_C_ask 85 = .ok (.iload_n 3, 1) := by decide +kernel
theorem d_C_ask_86 : decode b_C_ask 86 = .ok (.invokevirtual 144, 3) := by decide +kernel
theorem d_C_ask_89 : decode b_C_ask 89 = .ok (.checkcast 89, 3) := by decide +kernel
theorem d_C_ask_92 : decode b_C_ask 92 = .ok (.aload_n 0, 1) := by decide +kernel
theorem d_C_ask_93 : decode b_C_ask 93 = .ok (.getfield 57, 3) := by decide +kernel
theorem d_C_ask_96 : decode b_C_ask 96 = .ok (.invokevirtual 154, 3) := by decide +kernel
theorem d_C_ask_99 : decode b_C_ask 99 = .ok (.aload_n 0, 1) := by decide +kernel
theorem d_C_ask_100 : decode b_C_ask 100 = .ok (.getfield 57, 3) := by decide +kernel
theorem d_C_ask_103 : decode b_C_ask 103 = .ok (.getfield 124, 3) := by decide +kernel
theorem d_C_ask_106 : decode b_C_ask 106 = .ok (.bipush 6, 2) := by decide +kernel
theorem d_C_ask_108 : decode b_C_ask 108 = .ok (.if_icmp .ne 11, 3) := by decide +kernel
theorem d_C_ask_111 : decode b_C_ask 111 = .ok (.aload_n 0, 1) := by decide +kernel
theorem d_C_ask_112 : decode b_C_ask 112 = .ok (.getfield 57, 3) := by decide +kernel
theorem d_C_ask_115 : decode b_C_ask 115 = .ok (.getfield 158, 3) := by decide +kernel
theorem d_C_ask_118 : decode b_C_ask 118 = .ok (.ireturn, 1) := by decide +kernel
theorem d_C_ask_119 : decode b_C_ask 119 = .ok (.aload_n 0, 1) := by decide +kernel
theorem d_C_ask_120 : decode b_C_ask 120 = .ok (.getfield 30, 3) := by decide +kernel
theorem d_C_ask_123 : decode b_C_ask 123 = .ok (.iload_n 1, 1) := by decide +kernel
theorem d_C_ask_124 : decode b_C_ask 124 = .ok (.bipush 6, 2) := by decide +kernel
theorem d_C_ask_126 : decode b_C_ask 126 = .ok (.imul, 1) := by decide +kernel
theorem d_C_ask_127 : decode b_C_ask 127 = .ok (.aload_n 0, 1) := by decide +kernel
theorem d_C_ask_128 : decode b_C_ask 128 = .ok (.getfield 57, 3) := by decide +kernel
theorem d_C_ask_131 : decode b_C_ask 131 = .ok (.getfield 124, 3) := by decide +kernel
theorem d_C_ask_134 : decode b_C_ask 134 = .ok (.iadd, 1) := by decide +kernel
theorem d_C_ask_135 : decode b_C_ask 135 = .ok (.dup2, 1) := by decide +kernel
theorem d_C_ask_136 : decode b_C_ask 136 = .ok (.iaload, 1) := by decide +kernel
theorem d_C_ask_137 : decode b_C_ask 137 = .ok (.iconst 1, 1) := by decide +kernel
theorem d_C_ask_138 : decode b_C_ask 138 = .ok (.iadd, 1) := by decide +kernel
theorem d_C_ask_139 : decode b_C_ask 139 = .ok (.iastore, 1) := by decide +kernel
theorem d_C_ask_140 : decode b_C_ask 140 = .ok (.aload_n 0, 1) := by decide +kernel
theorem d_C_ask_141 : decode b_C_ask 141 = .ok (.getfield 26, 3) := by decide +kernel
theorem d_C_ask_144 : decode b_C_ask 144 = .ok (.iload_n 2, 1) := by decide +kernel
theorem d_C_ask_145 : decode b_C_ask 145 = .ok (.iaload, 1) := by decide +kernel
theorem d_C_ask_146 : decode b_C_ask 146 = .ok (.ireturn, 1) := by decide +kernel
theorem d_C_countingEdition_0 : decode b_C_countingEdition 0 = .ok (.iconst (-1), 1) := by decide +kernel
theorem d_C_countingEdition_1 : decode b_C_countingEdition 1 = .ok (.istore 4, 2) := by decide +kernel
theorem d_C_countingEdition_3 : decode b_C_countingEdition 3 = .ok (.iconst 0, 1) := by decide +kernel
theorem d_C_countingEdition_4 : decode b_C_countingEdition 4 = .ok (.istore 5, 2) := by decide +kernel
theorem d_C_countingEdition_6 : decode b_C_countingEdition 6 = .ok (.iconst 0, 1) := by decide +kernel
theorem d_C_countingEdition_7 : decode b_C_countingEdition 7 = .ok (.istore 6, 2) := by decide +kernel
theorem d_C_countingEdition_9 : decode b_C_countingEdition 9 = .ok (.iload 6, 2) := by decide +kernel
theorem d_C_countingEdition_11 : decode b_C_countingEdition 11 = .ok (.aload_n 0, 1) := by decide +kernel
theorem d_C_countingEdition_12 : decode b_C_countingEdition 12 = .ok (.getfield 10, 3) := by decide +kernel
theorem d_C_countingEdition_15 : decode b_C_countingEdition 15 = .ok (.invokevirtual 78, 3) := by decide +kernel
theorem d_C_countingEdition_18 : decode b_C_countingEdition 18 = .ok (.if_icmp .ge 55, 3) := by decide +kernel
theorem d_C_countingEdition_21 : decode b_C_countingEdition 21 = .ok (.aload_n 0, 1) := by decide +kernel
theorem d_C_countingEdition_22 : decode b_C_countingEdition 22 = .ok (.getfield 10, 3) := by decide +kernel
theorem d_C_countingEdition_25 : decode b_C_countingEdition 25 = .ok (.iload 6, 2) := by decide +kernel
theorem d_C_countingEdition_27 : decode b_C_countingEdition 27 = .ok (.invokevirtual 144, 3) := by decide +kernel
theorem d_C_countingEdition_30 : decode b_C_countingEdition 30 = .ok (.checkcast 89, 3) := by decide +kernel
theorem d_C_countingEdition_33 : decode b_C_countingEdition 33 = .ok (.astore 7, 2) := by decide +kernel
theorem d_C_countingEdition_35 : decode b_C_countingEdition 35 = .ok (.aload 7, 2) := by decide +kernel
theorem d_C_countingEdition_37 : decode b_C_countingEdition 37 = .ok (.iload_n 1, 1) := by decide +kernel
theorem d_C_countingEdition_38 : decode b_C_countingEdition 38 = .ok (.iload_n 2, 1) := by decide +kernel
theorem d_C_countingEdition_39 : decode b_C_countingEdition 39 = .ok (.iload_n 3, 1) := by decide +kernel
theorem d_C_countingEdition_40 : decode b_C_countingEdition 40 = .ok (.invokevirtual 225, 3) := by decide +kernel
theorem d_C_countingEdition_43 : decode b_C_countingEdition 43 = .ok (.ifCond .eq 24, 3) := by decide +kernel
theorem d_C_countingEdition_46 : decode b_C_countingEdition 46 = .ok (.aload 7, 2) := by decide +kernel
theorem d_C_countingEdition_48 : decode b_C_countingEdition 48 = .ok (.getfield 229, 3) := by decide +kernel
theorem d_C_countingEdition_51 : decode b_C_countingEdition 51 = .ok (.iload 5, 2) := by decide +kernel
theorem d_C_countingEdition_53 : decode b_C_countingEdition 53 = .ok (.if_icmp .lt 14, 3) := by decide +kernel
theorem d_C_countingEdition_56 : decode b_C_countingEdition 56 = .ok (.iload 6, 2) := by decide +kernel
theorem d_C_countingEdition_58 : decode b_C_countingEdition 58 = .ok (.istore 4, 2) := by decide +kernel
theorem d_C_countingEdition_60 : decode b_C_countingEdition 60 = .ok (.aload 7, 2) := by decide +kernel
theorem d_C_countingEdition_62 : decode b_C_countingEdition 62 = .ok (.getfield 229, 3) := by decide +kernel
theorem d_C_countingEdition_65 : decode b_C_countingEdition 65 = .ok (.istore 5, 2) := by decide +kernel
theorem d_C_countingEdition_67 : decode b_C_countingEdition 67 = .ok (.iinc 6 1, 3) := by decide +kernel
theorem d_C_countingEdition_70 : decode b_C_countingEdition 70 = .ok (.goto (-61), 3) := by decide +kernel
theorem d_C_countingEdition_73 : decode b_C_countingEdition 73 = .ok (.iload 4, 2) := by decide +kernel
theorem d_C_countingEdition_75 : decode b_C_countingEdition 75 = .ok (.ireturn, 1) := by decide +kernel
theorem d_C_place_0 : decode b_C_place 0 = .ok (.iload_n 0, 1) := by decide +kernel
theorem d_C_place_1 : decode b_C_place 1 = .ok (.iconst 3, 1) := by decide +kernel
theorem d_C_place_2 : decode b_C_place 2 = .ok (.imul, 1) := by decide +kernel
theorem d_C_place_3 : decode b_C_place 3 = .ok (.iload_n 1, 1) := by decide +kernel
theorem d_C_place_4 : decode b_C_place 4 = .ok (.iadd, 1) := by decide +kernel
theorem d_C_place_5 : decode b_C_place 5 = .ok (.ireturn, 1) := by decide +kernel
theorem d_C_runShadow_0 : decode b_C_runShadow 0 = .ok (.aload_n 0, 1) := by decide +kernel
theorem d_C_runShadow_1 : decode b_C_runShadow 1 = .ok (.getfield 33, 3) := by decide +kernel
theorem d_C_runShadow_4 : decode b_C_runShadow 4 = .ok (.iload_n 1, 1) := by decide +kernel
theorem d_C_runShadow_5 : decode b_C_runShadow 5 = .ok (.iaload, 1) := by decide +kernel
theorem d_C_runShadow_6 : decode b_C_runShadow 6 = .ok (.istore_n 2, 1) := by decide +kernel
theorem d_C_runShadow_7 : decode b_C_runShadow 7 = .ok (.iload_n 2, 1) := by decide +kernel
theorem d_C_runShadow_8 : decode b_C_runShadow 8 = .ok (.ifCond .lt 14, 3) := by decide +kernel
theorem d_C_runShadow_11 : decode b_C_runShadow 11 = .ok (.iload_n 2, 1) := by decide +kernel
theorem d_C_runShadow_12 : decode b_C_runShadow 12 = .ok (.aload_n 0, 1) := by decide +kernel
theorem d_C_runShadow_13 : decode b_C_runShadow 13 = .ok (.getfield 10, 3) := by decide +kernel
theorem d_C_runShadow_16 : decode b_C_runShadow 16 = .ok (.invokevirtual 78, 3) := by decide +kernel
theorem d_C_runShadow_19 : decode b_C_runShadow 19 = .ok (.if_icmp .lt 4, 3) := by decide +kernel
theorem d_C_runShadow_22 : decode b_C_runShadow 22 = .ok (.return_, 1) := by decide +kernel
theorem d_C_runShadow_23 : decode b_C_runShadow 23 = .ok (.aload_n 0, 1) := by decide +kernel
theorem d_C_runShadow_24 : decode b_C_runShadow 24 = .ok (.getfield 61, 3) := by decide +kernel
theorem d_C_runShadow_27 : decode b_C_runShadow 27 = .ok (.aload_n 0, 1) := by decide +kernel
theorem d_C_runShadow_28 : decode b_C_runShadow 28 = .ok (.getfield 10, 3) := by decide +kernel
theorem d_C_runShadow_31 : decode b_C_runShadow 31 = .ok (.iload_n 2, 1) := by decide +kernel
theorem d_C_runShadow_32 : decode b_C_runShadow 32 = .ok (.invokevirtual 144, 3) := by decide +kernel
theorem d_C_runShadow_35 : decode b_C_runShadow 35 = .ok (.checkcast 89, 3) := by decide +kernel
theorem d_C_runShadow_38 : decode b_C_runShadow 38 = .ok (.aload_n 0, 1) := by decide +kernel
theorem d_C_runShadow_39 : decode b_C_runShadow 39 = .ok (.getfield 22, 3) := by decide +kernel
theorem d_C_runShadow_42 : decode b_C_runShadow 42 = .ok (.invokevirtual 120, 3) := by decide +kernel
theorem d_C_runShadow_45 : decode b_C_runShadow 45 = .ok (.aload_n 0, 1) := by decide +kernel
theorem d_C_runShadow_46 : decode b_C_runShadow 46 = .ok (.getfield 57, 3) := by decide +kernel
theorem d_C_runShadow_49 : decode b_C_runShadow 49 = .ok (.aload_n 0, 1) := by decide +kernel
theorem d_C_runShadow_50 : decode b_C_runShadow 50 = .ok (.getfield 61, 3) := by decide +kernel
theorem d_C_runShadow_53 : decode b_C_runShadow 53 = .ok (.invokevirtual 188, 3) := by decide +kernel
theorem d_C_runShadow_56 : decode b_C_runShadow 56 = .ok (.ifCond .ne 13, 3) := by decide +kernel
theorem d_C_runShadow_59 : decode b_C_runShadow 59 = .ok (.aload_n 0, 1) := by decide +kernel
theorem d_C_runShadow_60 : decode b_C_runShadow 60 = .ok (.getfield 36, 3) := by decide +kernel
theorem d_C_runShadow_63 : decode b_C_runShadow 63 = .ok (.iload_n 1, 1) := by decide +kernel
theorem d_C_runShadow_64 : decode b_C_runShadow 64 = .ok (.dup2, 1) := by decide +kernel
theorem d_C_runShadow_65 : decode b_C_runShadow 65 = .ok (.iaload, 1) := by decide +kernel
theorem d_C_runShadow_66 : decode b_C_runShadow 66 = .ok (.iconst 1, 1) := by decide +kernel
theorem d_C_runShadow_67 : decode b_C_runShadow 67 = .ok (.iadd, 1) := by decide +kernel
theorem d_C_runShadow_68 : decode b_C_runShadow 68 = .ok (.iastore, 1) := by decide +kernel
theorem d_C_runShadow_69 : decode b_C_runShadow 69 = .ok (.return_, 1) := by decide +kernel
theorem d_C_fallback_0 : decode b_C_fallback 0 = .ok (.iload_n 1, 1) := by decide +kernel
theorem d_C_fallback_1 : decode b_C_fallback 1 = .ok (.iconst 0, 1) := by decide +kernel
theorem d_C_fallback_2 : decode b_C_fallback 2 = .ok (.iconst 2, 1) := by decide +kernel
theorem d_C_fallback_3 : decode b_C_fallback 3 = .ok (.invokestatic 67, 3) := by decide +kernel
theorem d_C_fallback_6 : decode b_C_fallback 6 = .ok (.iload_n 2, 1) := by decide +kernel
theorem d_C_fallback_7 : decode b_C_fallback 7 = .ok (.sipush (-10000), 3) := by decide +kernel
theorem d_C_fallback_10 : decode b_C_fallback 10 = .ok (.sipush 10000, 3) := by decide +kernel
theorem d_C_fallback_13 : decode b_C_fallback 13 = .ok (.invokestatic 67, 3) := by decide +kernel
theorem d_C_fallback_16 : decode b_C_fallback 16 = .ok (.aload_n 0, 1) := by decide +kernel
theorem d_C_fallback_17 : decode b_C_fallback 17 = .ok (.getfield 26, 3) := by decide +kernel
theorem d_C_fallback_20 : decode b_C_fallback 20 = .ok (.iload_n 1, 1) := by decide +kernel
theorem d_C_fallback_21 : decode b_C_fallback 21 = .ok (.iload_n 2, 1) := by decide +kernel
theorem d_C_fallback_22 : decode b_C_fallback 22 = .ok (.iastore, 1) := by decide +kernel
theorem d_C_fallback_23 : decode b_C_fallback 23 = .ok (.return_, 1) := by decide +kernel
theorem d_C_edition_0 : decode b_C_edition 0 = .ok (.iload_n 1, 1) := by decide +kernel
theorem d_C_edition_1 : decode b_C_edition 1 = .ok (.iload_n 2, 1) := by decide +kernel
theorem d_C_edition_2 : decode b_C_edition 2 = .ok (.invokestatic 74, 3) := by decide +kernel
theorem d_C_edition_5 : decode b_C_edition 5 = .ok (.iload_n 3, 1) := by decide +kernel
theorem d_C_edition_6 : decode b_C_edition 6 = .ok (.iconst 0, 1) := by decide +kernel
theorem d_C_edition_7 : decode b_C_edition 7 = .ok (.sipush 1000, 3) := by decide +kernel
theorem d_C_edition_10 : decode b_C_edition 10 = .ok (.invokestatic 67, 3) := by decide +kernel
theorem d_C_edition_13 : decode b_C_edition 13 = .ok (.aload_n 0, 1) := by decide +kernel
theorem d_C_edition_14 : decode b_C_edition 14 = .ok (.iload_n 1, 1) := by decide +kernel
theorem d_C_edition_15 : decode b_C_edition 15 = .ok (.iload_n 2, 1) := by decide +kernel
theorem d_C_edition_16 : decode b_C_edition 16 = .ok (.iload_n 3, 1) := by decide +kernel
theorem d_C_edition_17 : decode b_C_edition 17 = .ok (.invokevirtual 137, 3) := by decide +kernel
theorem d_C_edition_20 : decode b_C_edition 20 = .ok (.ireturn, 1) := by decide +kernel
theorem d_C_failed_0 : decode b_C_failed 0 = .ok (.iload_n 1, 1) := by decide +kernel
theorem d_C_failed_1 : decode b_C_failed 1 = .ok (.iconst 0, 1) := by decide +kernel
theorem d_C_failed_2 : decode b_C_failed 2 = .ok (.iconst 5, 1) := by decide +kernel
theorem d_C_failed_3 : decode b_C_failed 3 = .ok (.invokestatic 67, 3) := by decide +kernel
theorem d_C_failed_6 : decode b_C_failed 6 = .ok (.iload_n 2, 1) := by decide +kernel
theorem d_C_failed_7 : decode b_C_failed 7 = .ok (.iconst 0, 1) := by decide +kernel
theorem d_C_failed_8 : decode b_C_failed 8 = .ok (.iconst 5, 1) := by decide +kernel
theorem d_C_failed_9 : decode b_C_failed 9 = .ok (.invokestatic 67, 3) := by decide +kernel
theorem d_C_failed_12 : decode b_C_failed 12 = .ok (.aload_n 0, 1) := by decide +kernel
theorem d_C_failed_13 : decode b_C_failed 13 = .ok (.getfield 30, 3) := by decide +kernel
theorem d_C_failed_16 : decode b_C_failed 16 = .ok (.iload_n 1, 1) := by decide +kernel
theorem d_C_failed_17 : decode b_C_failed 17 = .ok (.bipush 6, 2) := by decide +kernel
theorem d_C_failed_19 : decode b_C_failed 19 = .ok (.imul, 1) := by decide +kernel
theorem d_C_failed_20 : decode b_C_failed 20 = .ok (.iload_n 2, 1) := by decide +kernel
theorem d_C_failed_21 : decode b_C_failed 21 = .ok (.iadd, 1) := by decide +kernel
theorem d_C_failed_22 : decode b_C_failed 22 = .ok (.iaload, 1) := by decide +kernel
theorem d_C_failed_23 : decode b_C_failed 23 = .ok (.ireturn, 1) := by decide +kernel
theorem d_C_handle_0 : decode b_C_handle 0 = .ok (.aload_n 0, 1) := by decide +kernel
theorem d_C_handle_1 : decode b_C_handle 1 = .ok (.iload_n 1, 1) := by decide +kernel
theorem d_C_handle_2 : decode b_C_handle 2 = .ok (.invokevirtual 97, 3) := by decide +kernel
theorem d_C_handle_5 : decode b_C_handle 5 = .ok (.getfield 127, 3) := by decide +kernel
theorem d_C_handle_8 : decode b_C_handle 8 = .ok (.ifCond .ne 13, 3) := by decide +kernel
theorem d_C_handle_11 : decode b_C_handle 11 = .ok (.new 161, 3) := by decide +kernel
theorem d_C_handle_14 : decode b_C_handle 14 = .ok (.dup, 1) := by decide +kernel
theorem d_C_handle_15 : decode b_C_handle 15 = .ok (.ldc 163, 2) := by decide +kernel
theorem d_C_handle_17 : decode b_C_handle 17 = .ok (.invokespecial 165, 3) := by decide +kernel
theorem d_C_handle_20 : decode b_C_handle 20 = .ok (.athrow, 1) := by decide +kernel
theorem d_C_handle_21 : decode b_C_handle 21 = .ok (.aload_n 0, 1) := by decide +kernel
theorem d_C_handle_22 : decode b_C_handle 22 = .ok (.getfield 166, 3) := by decide +kernel
theorem d_C_handle_25 : decode b_C_handle 25 = .ok (.sipush 10000, 3) := by decide +kernel
theorem d_C_handle_28 : decode b_C_handle 28 = .ok (.if_icmp .lt 13, 3) := by decide +kernel
theorem d_C_handle_31 : decode b_C_handle 31 = .ok (.new 82, 3) := by decide +kernel
theorem d_C_handle_34 : decode b_C_handle 34 = .ok (.dup, 1) := by decide +kernel
theorem d_C_handle_35 : decode b_C_handle 35 = .ok (.ldc 169, 2) := by decide +kernel
theorem d_C_handle_37 : decode b_C_handle 37 = .ok (.invokespecial 86, 3) := by decide +kernel
theorem d_C_handle_40 : decode b_C_handle 40 = .ok (.athrow, 1) := by decide +kernel
theorem d_C_handle_41 : decode b_C_handle 41 = .ok (.aload_n 0, 1) := by decide +kernel
theorem d_C_handle_42 : decode b_C_handle 42 = .ok (.dup, 1) := by decide +kernel
theorem d_C_handle_43 : decode b_C_handle 43 = .ok (.getfield 166, 3) := by decide +kernel
theorem d_C_handle_46 : decode b_C_handle 46 = .ok (.iconst 1, 1) := by decide +kernel
theorem d_C_handle_47 : decode b_C_handle 47 = .ok (.iadd, 1) := by decide +kernel
theorem d_C_handle_48 : decode b_C_handle 48 = .ok (.putfield 166, 3) := by decide +kernel
theorem d_C_handle_51 : decode b_C_handle 51 = .ok (.aload_n 0, 1) := by decide +kernel
theorem d_C_handle_52 : decode b_C_handle 52 = .ok (.aload_n 0, 1) := by decide +kernel
theorem d_C_handle_53 : decode b_C_handle 53 = .ok (.getfield 166, 3) := by decide +kernel
theorem d_C_handle_56 : decode b_C_handle 56 = .ok (.putfield 171, 3) := by decide +kernel
theorem d_C_handle_59 : decode b_C_handle 59 = .ok (.aload_n 0, 1) := by decide +kernel
theorem d_C_handle_60 : decode b_C_handle 60 = .ok (.iload_n 1, 1) := by decide +kernel
theorem d_C_handle_61 : decode b_C_handle 61 = .ok (.putfield 174, 3) := by decide +kernel
theorem d_C_handle_64 : decode b_C_handle 64 = .ok (.aload_n 0, 1) := by decide +kernel
theorem d_C_handle_65 : decode b_C_handle 65 = .ok (.getfield 166, 3) := by decide +kernel
theorem d_C_handle_68 : decode b_C_handle 68 = .ok (.ireturn, 1) := by decide +kernel
theorem d_C_by_0 : decode b_C_by 0 = .ok (.iload_n 1, 1) := by decide +kernel
theorem d_C_by_1 : decode b_C_by 1 = .ok (.iconst 1, 1) := by decide +kernel
theorem d_C_by_2 : decode b_C_by 2 = .ok (.aload_n 0, 1) := by decide +kernel
theorem d_C_by_3 : decode b_C_by 3 = .ok (.getfield 166, 3) := by decide +kernel
theorem d_C_by_6 : decode b_C_by 6 = .ok (.invokestatic 67, 3) := by decide +kernel
theorem d_C_by_9 : decode b_C_by 9 = .ok (.iload_n 1, 1) := by decide +kernel
theorem d_C_by_10 : decode b_C_by 10 = .ok (.aload_n 0, 1) := by decide +kernel
theorem d_C_by_11 : decode b_C_by 11 = .ok (.getfield 171, 3) := by decide +kernel
theorem d_C_by_14 : decode b_C_by 14 = .ok (.if_icmp .eq 13, 3) := by decide +kernel
theorem d_C_by_17 : decode b_C_by 17 = .ok (.new 161, 3) := by decide +kernel
theorem d_C_by_20 : decode b_C_by 20 = .ok (.dup, 1) := by decide +kernel
theorem d_C_by_21 : decode b_C_by 21 = .ok (.ldc 177, 2) := by decide +kernel
theorem d_C_by_23 : decode b_C_by 23 = .ok (.invokespecial 165, 3) := by decide +kernel
theorem d_C_by_26 : decode b_C_by 26 = .ok (.athrow, 1) := by decide +kernel
theorem d_C_by_27 : decode b_C_by 27 = .ok (.aload_n 0, 1) := by decide +kernel
theorem d_C_by_28 : decode b_C_by 28 = .ok (.aload_n 0, 1) := by decide +kernel
theorem d_C_by_29 : decode b_C_by 29 = .ok (.getfield 174, 3) := by decide +kernel
theorem d_C_by_32 : decode b_C_by 32 = .ok (.invokevirtual 97, 3) := by decide +kernel
theorem d_C_by_35 : decode b_C_by 35 = .ok (.astore_n 2, 1) := by decide +kernel
theorem d_C_by_36 : decode b_C_by 36 = .ok (.aload_n 0, 1) := by decide +kernel
theorem d_C_by_37 : decode b_C_by 37 = .ok (.getfield 57, 3) := by decide +kernel
theorem d_C_by_40 : decode b_C_by 40 = .ok (.aload_n 2, 1) := by decide +kernel
theorem d_C_by_41 : decode b_C_by 41 = .ok (.aload_n 0, 1) := by decide +kernel
theorem d_C_by_42 : decode b_C_by 42 = .ok (.getfield 22, 3) := by decide +kernel
theorem d_C_by_45 : decode b_C_by 45 = .ok (.invokevirtual 120, 3) := by decide +kernel
theorem d_C_by_48 : decode b_C_by 48 = .ok (.aload_n 0, 1) := by decide +kernel
theorem d_C_by_49 : decode b_C_by 49 = .ok (.getfield 57, 3) := by decide +kernel
theorem d_C_by_52 : decode b_C_by 52 = .ok (.getfield 124, 3) := by decide +kernel
theorem d_C_by_55 : decode b_C_by 55 = .ok (.bipush 6, 2) := by decide +kernel
theorem d_C_by_57 : decode b_C_by 57 = .ok (.if_icmp .ne 13, 3) := by decide +kernel
theorem d_C_by_60 : decode b_C_by 60 = .ok (.aload_n 0, 1) := by decide +kernel
theorem d_C_by_61 : decode b_C_by 61 = .ok (.getfield 57, 3) := by decide +kernel
theorem d_C_by_64 : decode b_C_by 64 = .ok (.getfield 158, 3) := by decide +kernel
theorem d_C_by_67 : decode b_C_by 67 = .ok (.goto 12, 3) := by decide +kernel
theorem d_C_by_70 : decode b_C_by 70 = .ok (.aload_n 0, 1) := by decide +kernel
theorem d_C_by_71 : decode b_C_by 71 = .ok (.getfield 26, 3) := by decide +kernel
theorem d_C_by_74 : decode b_C_by 74 = .ok (.aload_n 2, 1) := by decide +kernel
theorem d_C_by_75 : decode b_C_by 75 = .ok (.getfield 179, 3) := by decide +kernel
theorem d_C_by_78 : decode b_C_by 78 = .ok (.iaload, 1) := by decide +kernel
theorem d_C_by_79 : decode b_C_by 79 = .ok (.ireturn, 1) := by decide +kernel
theorem d_C_keep_0 : decode b_C_keep 0 = .ok (.aload_n 0, 1) := by decide +kernel
theorem d_C_keep_1 : decode b_C_keep 1 = .ok (.getfield 16, 3) := by decide +kernel
theorem d_C_keep_4 : decode b_C_keep 4 = .ok (.invokevirtual 78, 3) := by decide +kernel
theorem d_C_keep_7 : decode b_C_keep 7 = .ok (.bipush 8, 2) := by decide +kernel
theorem d_C_keep_9 : decode b_C_keep 9 = .ok (.if_icmp .lt 13, 3) := by decide +kernel
theorem d_C_keep_12 : decode b_C_keep 12 = .ok (.new 82, 3) := by decide +kernel
theorem d_C_keep_15 : decode b_C_keep 15 = .ok (.dup, 1) := by decide +kernel
theorem d_C_keep_16 : decode b_C_keep 16 = .ok (.ldc 182, 2) := by decide +kernel
theorem d_C_keep_18 : decode b_C_keep 18 = .ok (.invokespecial 86, 3) := by decide +kernel
theorem d_C_keep_21 : decode b_C_keep 21 = .ok (.athrow, 1) := by decide +kernel
theorem d_C_keep_22 : decode b_C_keep 22 = .ok (.aload_n 0, 1) := by decide +kernel
theorem d_C_keep_23 : decode b_C_keep 23 = .ok (.getfield 16, 3) := by decide +kernel
theorem d_C_keep_26 : decode b_C_keep 26 = .ok (.aload_n 0, 1) := by decide +kernel
theorem d_C_keep_27 : decode b_C_keep 27 = .ok (.getfield 22, 3) := by decide +kernel
theorem d_C_keep_30 : decode b_C_keep 30 = .ok (.invokevirtual 184, 3) := by decide +kernel
theorem d_C_keep_33 : decode b_C_keep 33 = .ok (.invokevirtual 93, 3) := by decide +kernel
theorem d_C_keep_36 : decode b_C_keep 36 = .ok (.pop, 1) := by decide +kernel
theorem d_C_keep_37 : decode b_C_keep 37 = .ok (.aload_n 0, 1) := by decide +kernel
theorem d_C_keep_38 : decode b_C_keep 38 = .ok (.getfield 16, 3) := by decide +kernel
theorem d_C_keep_41 : decode b_C_keep 41 = .ok (.invokevirtual 78, 3) := by decide +kernel
theorem d_C_keep_44 : decode b_C_keep 44 = .ok (.ireturn, 1) := by decide +kernel
theorem d_C_compare_0 : decode b_C_compare 0 = .ok (.aload_n 0, 1) := by decide +kernel
theorem d_C_compare_1 : decode b_C_compare 1 = .ok (.iload_n 1, 1) := by decide +kernel
theorem d_C_compare_2 : decode b_C_compare 2 = .ok (.invokevirtual 97, 3) := by decide +kernel
theorem d_C_compare_5 : decode b_C_compare 5 = .ok (.astore_n 3, 1) := by decide +kernel
theorem d_C_compare_6 : decode b_C_compare 6 = .ok (.aload_n 0, 1) := by decide +kernel
theorem d_C_compare_7 : decode b_C_compare 7 = .ok (.iload_n 2, 1) := by decide +kernel
theorem d_C_compare_8 : decode b_C_compare 8 = .ok (.invokevirtual 97, 3) := by decide +kernel
theorem d_C_compare_11 : decode b_C_compare 11 = .ok (.astore 4, 2) := by decide +kernel
theorem d_C_compare_13 : decode b_C_compare 13 = .ok (.iconst 0, 1) := by decide +kernel
theorem d_C_compare_14 : decode b_C_compare 14 = .ok (.istore 5, 2) := by decide +kernel
theorem d_C_compare_16 : decode b_C_compare 16 = .ok (.iconst 0, 1) := by decide +kernel
theorem d_C_compare_17 : decode b_C_compare 17 = .ok (.istore 6, 2) := by decide +kernel
theorem d_C_compare_19 : decode b_C_compare 19 = .ok (.iload 6, 2) := by decide +kernel
theorem d_C_compare_21 : decode b_C_compare 21 = .ok (.aload_n 0, 1) := by decide +kernel
theorem d_C_compare_22 : decode b_C_compare 22 = .ok (.getfield 16, 3) := by decide +kernel
theorem d_C_compare_25 : decode b_C_compare 25 = .ok (.invokevirtual 78, 3) := by decide +kernel
theorem d_C_compare_28 : decode b_C_compare 28 = .ok (.if_icmp .ge 67, 3) := by decide +kernel
theorem d_C_compare_31 : decode b_C_compare 31 = .ok (.aload_n 0, 1) := by decide +kernel
theorem d_C_compare_32 : decode b_C_compare 32 = .ok (.getfield 57, 3) := by decide +kernel
theorem d_C_compare_35 : decode b_C_compare 35 = .ok (.aload_n 3, 1) := by decide +kernel
theorem d_C_compare_36 : decode b_C_compare 36 = .ok (.aload_n 0, 1) := by decide +kernel
theorem d_C_compare_37 : decode b_C_compare 37 = .ok (.getfield 16, 3) := by decide +kernel
theorem d_C_compare_40 : decode b_C_compare 40 = .ok (.iload 6, 2) := by decide +kernel
theorem d_C_compare_42 : decode b_C_compare 42 = .ok (.invokevirtual 144, 3) := by decide +kernel
theorem d_C_compare_45 : decode b_C_compare 45 = .ok (.checkcast 19, 3) := by decide +kernel
theorem d_C_compare_48 : decode b_C_compare 48 = .ok (.invokevirtual 120, 3) := by decide +kernel
theorem d_C_compare_51 : decode b_C_compare 51 = .ok (.aload_n 0, 1) := by decide +kernel
theorem d_C_compare_52 : decode b_C_compare 52 = .ok (.getfield 61, 3) := by decide +kernel
theorem d_C_compare_55 : decode b_C_compare 55 = .ok (.aload 4, 2) := by decide +kernel
theorem d_C_compare_57 : decode b_C_compare 57 = .ok (.aload_n 0, 1) := by decide +kernel
theorem d_C_compare_58 : decode b_C_compare 58 = .ok (.getfield 16, 3) := by decide +kernel
theorem d_C_compare_61 : decode b_C_compare 61 = .ok (.iload 6, 2) := by decide +kernel
theorem d_C_compare_63 : decode b_C_compare 63 = .ok (.invokevirtual 144, 3) := by decide +kernel
theorem d_C_compare_66 : decode b_C_compare 66 = .ok (.checkcast 19, 3) := by decide +kernel
theorem d_C_compare_69 : decode b_C_compare 69 = .ok (.invokevirtual 120, 3) := by decide +kernel
theorem d_C_compare_72 : decode b_C_compare 72 = .ok (.aload_n 0, 1) := by decide +kernel
theorem d_C_compare_73 : decode b_C_compare 73 = .ok (.getfield 57, 3) := by decide +kernel
theorem d_C_compare_76 : decode b_C_compare 76 = .ok (.aload_n 0, 1) := by decide +kernel
theorem d_C_compare_77 : decode b_C_compare 77 = .ok (.getfield 61, 3) := by decide +kernel
theorem d_C_compare_80 : decode b_C_compare 80 = .ok (.invokevirtual 188, 3) := by decide +kernel
theorem d_C_compare_83 : decode b_C_compare 83 = .ok (.ifCond .ne 6, 3) := by decide +kernel
theorem d_C_compare_86 : decode b_C_compare 86 = .ok (.iinc 5 1, 3) := by decide +kernel
theorem d_C_compare_89 : decode b_C_compare 89 = .ok (.iinc 6 1, 3) := by decide +kernel
theorem d_C_compare_92 : decode b_C_compare 92 = .ok (.goto (-73), 3) := by decide +kernel
theorem d_C_compare_95 : decode b_C_compare 95 = .ok (.iload 5, 2) := by decide +kernel
theorem d_C_compare_97 : decode b_C_compare 97 = .ok (.ireturn, 1) := by decide +kernel
theorem d_C_same_0 : decode b_C_same 0 = .ok (.aload_n 0, 1) := by decide +kernel
theorem d_C_same_1 : decode b_C_same 1 = .ok (.iload_n 1, 1) := by decide +kernel
theorem d_C_same_2 : decode b_C_same 2 = .ok (.invokevirtual 97, 3) := by decide +kernel
theorem d_C_same_5 : decode b_C_same 5 = .ok (.astore_n 3, 1) := by decide +kernel
theorem d_C_same_6 : decode b_C_same 6 = .ok (.aload_n 0, 1) := by decide +kernel
theorem d_C_same_7 : decode b_C_same 7 = .ok (.iload_n 2, 1) := by decide +kernel
theorem d_C_same_8 : decode b_C_same 8 = .ok (.invokevirtual 97, 3) := by decide +kernel
theorem d_C_same_11 : decode b_C_same 11 = .ok (.astore 4, 2) := by decide +kernel
theorem d_C_same_13 : decode b_C_same 13 = .ok (.aload_n 3, 1) := by decide +kernel
theorem d_C_same_14 : decode b_C_same 14 = .ok (.aload 4, 2) := by decide +kernel
theorem d_C_same_16 : decode b_C_same 16 = .ok (.invokevirtual 192, 3) := by decide +kernel
theorem d_C_same_19 : decode b_C_same 19 = .ok (.ireturn, 1) := by decide +kernel
theorem d_C_shadow_0 : decode b_C_shadow 0 = .ok (.iload_n 3, 1) := by decide +kernel
theorem d_C_shadow_1 : decode b_C_shadow 1 = .ok (.iconst (-1), 1) := by decide +kernel
theorem d_C_shadow_2 : decode b_C_shadow 2 = .ok (.if_icmp .eq 8, 3) := by decide +kernel
theorem d_C_shadow_5 : decode b_C_shadow 5 = .ok (.aload_n 0, 1) := by decide +kernel
theorem d_C_shadow_6 : decode b_C_shadow 6 = .ok (.iload_n 3, 1) := by decide +kernel
theorem d_C_shadow_7 : decode b_C_shadow 7 = .ok (.invokevirtual 196, 3) := by decide +kernel
theorem d_C_shadow_10 : decode b_C_shadow 10 = .ok (.iload_n 1, 1) := by decide +kernel
theorem d_C_shadow_11 : decode b_C_shadow 11 = .ok (.iload_n 2, 1) := by decide +kernel
theorem d_C_shadow_12 : decode b_C_shadow 12 = .ok (.invokestatic 74, 3) := by decide +kernel
theorem d_C_shadow_15 : decode b_C_shadow 15 = .ok (.aload_n 0, 1) := by decide +kernel
theorem d_C_shadow_16 : decode b_C_shadow 16 = .ok (.getfield 33, 3) := by decide +kernel
theorem d_C_shadow_19 : decode b_C_shadow 19 = .ok (.iload_n 1, 1) := by decide +kernel
theorem d_C_shadow_20 : decode b_C_shadow 20 = .ok (.iload_n 2, 1) := by decide +kernel
theorem d_C_shadow_21 : decode b_C_shadow 21 = .ok (.invokestatic 148, 3) := by decide +kernel
theorem d_C_shadow_24 : decode b_C_shadow 24 = .ok (.iload_n 3, 1) := by decide +kernel
theorem d_C_shadow_25 : decode b_C_shadow 25 = .ok (.iastore, 1) := by decide +kernel
theorem d_C_shadow_26 : decode b_C_shadow 26 = .ok (.aload_n 0, 1) := by decide +kernel
theorem d_C_shadow_27 : decode b_C_shadow 27 = .ok (.getfield 36, 3) := by decide +kernel
theorem d_C_shadow_30 : decode b_C_shadow 30 = .ok (.iload_n 1, 1) := by decide +kernel
theorem d_C_shadow_31 : decode b_C_shadow 31 = .ok (.iload_n 2, 1) := by decide +kernel
theorem d_C_shadow_32 : decode b_C_shadow 32 = .ok (.invokestatic 148, 3) := by decide +kernel
theorem d_C_shadow_35 : decode b_C_shadow 35 = .ok (.iconst 0, 1) := by decide +kernel
theorem d_C_shadow_36 : decode b_C_shadow 36 = .ok (.iastore, 1) := by decide +kernel
theorem d_C_shadow_37 : decode b_C_shadow 37 = .ok (.return_, 1) := by decide +kernel
theorem d_C_otherwise_0 : decode b_C_otherwise 0 = .ok (.iload_n 1, 1) := by decide +kernel
theorem d_C_otherwise_1 : decode b_C_otherwise 1 = .ok (.iload_n 2, 1) := by decide +kernel
theorem d_C_otherwise_2 : decode b_C_otherwise 2 = .ok (.invokestatic 74, 3) := by decide +kernel
theorem d_C_otherwise_5 : decode b_C_otherwise 5 = .ok (.aload_n 0, 1) := by decide +kernel
theorem d_C_otherwise_6 : decode b_C_otherwise 6 = .ok (.getfield 36, 3) := by decide +kernel
theorem d_C_otherwise_9 : decode b_C_otherwise 9 = .ok (.iload_n 1, 1) := by decide +kernel
theorem d_C_otherwise_10 : decode b_C_otherwise 10 = .ok (.iload_n 2, 1) := by decide +kernel
theorem d_C_otherwise_11 : decode b_C_otherwise 11 = .ok (.invokestatic 148, 3) := by decide +kernel
theorem d_C_otherwise_14 : decode b_C_otherwise 14 = .ok (.iaload, 1) := by decide +kernel
theorem d_C_otherwise_15 : decode b_C_otherwise 15 = .ok (.ireturn, 1) := by decide +kernel
theorem d_C_divide_0 : decode b_C_divide 0 = .ok (.iload_n 2, 1) := by decide +kernel
theorem d_C_divide_1 : decode b_C_divide 1 = .ok (.ifCond .ne 13, 3) := by decide +kernel
theorem d_C_divide_4 : decode b_C_divide 4 = .ok (.new 199, 3) := by decide +kernel
theorem d_C_divide_7 : decode b_C_divide 7 = .ok (.dup, 1) := by decide +kernel
theorem d_C_divide_8 : decode b_C_divide 8 = .ok (.ldc 201, 2) := by decide +kernel
theorem d_C_divide_10 : decode b_C_divide 10 = .ok (.invokespecial 203, 3) := by decide +kernel
theorem d_C_divide_13 : decode b_C_divide 13 = .ok (.athrow, 1) := by decide +kernel
theorem d_C_divide_14 : decode b_C_divide 14 = .ok (.iload_n 1, 1) := by decide +kernel
theorem d_C_divide_15 : decode b_C_divide 15 = .ok (.iload_n 2, 1) := by decide +kernel
theorem d_C_divide_16 : decode b_C_divide 16 = .ok (.idiv, 1) := by decide +kernel
theorem d_C_divide_17 : decode b_C_divide 17 = .ok (.ireturn, 1) := by decide +kernel
theorem d_C_told_0 : decode b_C_told 0 = .ok (.aload_n 0, 1) := by decide +kernel
theorem d_C_told_1 : decode b_C_told 1 = .ok (.iload_n 1, 1) := by decide +kernel
theorem d_C_told_2 : decode b_C_told 2 = .ok (.invokevirtual 97, 3) := by decide +kernel
theorem d_C_told_5 : decode b_C_told 5 = .ok (.astore_n 3, 1) := by decide +kernel
theorem d_C_told_6 : decode b_C_told 6 = .ok (.iload_n 2, 1) := by decide +kernel
theorem d_C_told_7 : decode b_C_told 7 = .ok (.iconst 0, 1) := by decide +kernel
theorem d_C_told_8 : decode b_C_told 8 = .ok (.bipush 7, 2) := by decide +kernel
theorem d_C_told_10 : decode b_C_told 10 = .ok (.invokestatic 67, 3) := by decide +kernel
theorem d_C_told_13 : decode b_C_told 13 = .ok (.aload_n 3, 1) := by decide +kernel
theorem d_C_told_14 : decode b_C_told 14 = .ok (.iload_n 2, 1) := by decide +kernel
theorem d_C_told_15 : decode b_C_told 15 = .ok (.invokevirtual 204, 3) := by decide +kernel
theorem d_C_told_18 : decode b_C_told 18 = .ok (.ireturn, 1) := by decide +kernel
